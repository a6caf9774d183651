/-! the best sending: one tree on either side -/
abbrev St := Int × (Int → Int)
def ups (t : Int → Int) (g x : Int) : Int → Int := fun i => if i = g then x else t i
theorem ups_at (t : Int → Int) (g x : Int) : ups t g x g = x := if_pos rfl
theorem ups_ne {t : Int → Int} {g x i : Int} (h : i ≠ g) : ups t g x i = t i := if_neg h
def lpS (f : Int → St → St) : Nat → Int → St → St
  | 0, _, st => st
  | k + 1, s, st => lpS f k (s + 1) (f s st)
/-- k gangs are left; sz: what a gang saves at a heap of stones; R heaps -/
def chS (sz : Int → Int → Int) (R : Nat) : Nat → Int → Int32 → Int → (Int → Int) → St → St
  | 0, _, _, sum, tr, st => if J sum ≤ J st.1 then st else (sum, tr)
  | k + 1, g, tk, sum, tr, st => chS sz R k (g + 1) tk sum (ups tr g (-1)) (lpS (fun s z => if (tk >>> (J s &&& J 31)) &&& J 1 = J 0 then chS sz R k (g + 1) (tk ||| (J 1 <<< (J s &&& J 31))) (sum + sz g s) (ups tr g s) z else z) R 0 st)
/-- the class's cells: alike but for the tried, the best and how much it saves -/
def FrC (m0 m : Nat → Int → Int) : Prop := ∀ b i, b ≠ 109 → b ≠ 110 → ¬ (b = 99 ∧ i = 7) → m b i = m0 b i
def FrM (m0 m : Nat → Int → Int) : Prop := ∀ b i, b ≠ 150 → b ≠ 151 → ¬ (b = 136 ∧ i = 29) → m b i = m0 b i
theorem De.at {f : Nat → xO} {r : xR} {P : xH} (u : Nat → Nat) (hu : ∀ n, n ≤ u n) (h : De f r P) : De (fun n => f (u n)) r P := by
  obtain ⟨n0, h⟩ := h
  exact ⟨n0, fun n hn => h (u n) (Nat.le_trans hn (hu n))⟩
theorem Fq_X0_choose (n dp : Nat) (as : List Value) (P : xH) : F_X0_choose n (dp + 1) 0 as P = g_X0_choose (F_X0_choose n dp) n 0 as P := by
  first | rfl | rw [F_X0_choose]
theorem Fq_X11_sends (n dp : Nat) (as : List Value) (P : xH) : F_X11_sends n (dp + 1) 0 as P = g_X11_sends (F_X11_sends n dp) n 0 as P := by
  first | rfl | rw [F_X11_sends]
section SEND
variable {S : xH} {m0 : Nat → Int → Int} {q : Nat → Int → Int64} {t : Int} {G R : Nat} {sz : Int → Int → Int}
theorem q_choose (hs : Sk S) (hG : (G : Int) = m0 99 6) (hR : (R : Int) = m0 99 5) (G4 : G ≤ 4) (R5 : R ≤ 5) (H : ∀ m, FrC m0 m → ∀ g s : Int, 0 ≤ g → g < G → 0 ≤ s → s < R → ∀ n, f_X0_savedBy (n + 3) 0 [.ref 99, .int (J g), .int (J s), .int (J t)] (hp S m q) = some (.inl (some (.int (J (sz g s)))), hp S m q)) :
    ∀ (k dp : Nat) (g : Int) (tk : Int32) (sum : Int) (tr : Int → Int) (m : Nat → Int → Int) (st : St), 0 ≤ g → g + k = G → k < dp → FrC m0 m → m 99 7 = st.1 → (∀ i : Int, 0 ≤ i → i < G → m 110 i = st.2 i) → (∀ i : Int, 0 ≤ i → i < g → m 109 i = tr i) →
    ∃ m', De (fun n => F_X0_choose n dp 0 [.ref 99, .int (J g), .int tk, .int (J sum), .int (J t)] (hp S m q)) (.inl none) (hp S m' q) ∧ FrC m0 m' ∧ (∀ i : Int, 0 ≤ i → i < g → m' 109 i = tr i) ∧ m' 99 7 = (chS sz R k g tk sum tr st).1 ∧ ∀ i : Int, 0 ≤ i → i < G → m' 110 i = (chS sz R k g tk sum tr st).2 i := by
  intro k
  induction k with
  | zero =>
    intro dp g tk sum tr m st g0 gk hd F h7 hB hT
    obtain ⟨dp, rfl⟩ : ∃ d, dp = d + 1 := ⟨dp - 1, by omega⟩
    have f6 : m 99 6 = G := (F 99 6 (by decide) (by decide) (by omega)).trans hG.symm
    have E := fun (m' : Nat → Int → Int) n => e_copyRow (m := m') (q := q) (hs.at 109) (hs.at 110) (by decide) n
    by_cases c : J sum ≤ J st.1
    · refine ⟨m, De.cg 4 (g := fun _ => some (.inl none, hp S m q)) (fun n => ?_) (De.ret _ _), F, hT, by rw [chS, if_pos c]; exact h7, by rw [chS, if_pos c]; exact hB⟩
      rw [Fq_X0_choose]
      simp (disch := omega) only [j_X0_choose_0, b_X0_choose_0, x99_k hs, x99_r0 hs, x99_r1 hs, x99_r2 hs, x99_r3 hs, x99_r4 hs, x99_i5 hs, x99_w5 hs, x99_i6 hs, x99_w6 hs, x99_i7 hs, x99_w7 hs, f6, Option.bind_some, xI, xU, xUt, xIt, J_lit, J_add, J_sub, J_mul, J_neg, J_ltc, J_lec, J_eqc, lt_T, lt_F, le_T, le_F, eq_T, eq_F, ↓reduceIte, ite_not, not_true_eq_false, not_false_eq_true, true_or, or_true, false_or, or_false, true_and, and_true, false_and, and_false, up_get, Nat.reduceEqDiff, Int.reduceNeg, eqN_T, eqN_F]
      rw [j_X0_choose_13]
      unfold b_X0_choose_13
      rw [x99_i7 hs, Option.bind_some, h7, if_pos c]
    · refine ⟨cpr (up m 99 7 sum) 109 110 4, De.cg 4 (g := fun _ => some (.inl none, hp S (cpr (up m 99 7 sum) 109 110 4) q)) (fun n => ?_) (De.ret _ _), ?_, ?_, ?_, ?_⟩
      · rw [Fq_X0_choose]
        simp (disch := omega) only [j_X0_choose_0, b_X0_choose_0, x99_k hs, x99_r0 hs, x99_r1 hs, x99_r2 hs, x99_r3 hs, x99_r4 hs, x99_i5 hs, x99_w5 hs, x99_i6 hs, x99_w6 hs, x99_i7 hs, x99_w7 hs, f6, Option.bind_some, xI, xU, xUt, xIt, J_lit, J_add, J_sub, J_mul, J_neg, J_ltc, J_lec, J_eqc, lt_T, lt_F, le_T, le_F, eq_T, eq_F, ↓reduceIte, ite_not, not_true_eq_false, not_false_eq_true, true_or, or_true, false_or, or_false, true_and, and_true, false_and, and_false, up_get, Nat.reduceEqDiff, Int.reduceNeg, eqN_T, eqN_F]
        rw [j_X0_choose_13]
        unfold b_X0_choose_13
        rw [x99_i7 hs, Option.bind_some, h7, if_neg c, x99_w7 hs, Option.bind_some, x99_r3 hs, Option.bind_some, x99_r4 hs, Option.bind_some, E, Option.bind_some, xU]
      · intro b i h1 h2 h3
        unfold cpr
        rw [if_neg (fun z => h2 z.1), up_get, if_neg h3]
        exact F b i h1 h2 h3
      · intro i i0 i1
        unfold cpr
        rw [if_neg (by omega), up_get, if_neg (by omega)]
        exact hT i i0 i1
      · rw [chS, if_neg c]
        unfold cpr
        rw [if_neg (by omega), up_at]
      · intro i i0 i1
        rw [chS, if_neg c]
        unfold cpr
        rw [if_pos ⟨rfl, i0, by omega⟩, up_get, if_neg (by omega)]
        exact hT i i0 (by omega)
  | succ k IH =>
    intro dp g tk sum tr m st g0 gk hd F h7 hB hT
    obtain ⟨dp, rfl⟩ : ∃ d, dp = d + 1 := ⟨dp - 1, by omega⟩
    have L : ∀ (r : Nat) (s : Int) (u : Nat → Nat) (m : Nat → Int → Int) (st : St), (∀ n, n ≤ u n) → 0 ≤ s → s + r = R → FrC m0 m → m 99 7 = st.1 → (∀ i : Int, 0 ≤ i → i < G → m 110 i = st.2 i) → (∀ i : Int, 0 ≤ i → i < g → m 109 i = tr i) →
        ∃ m', De (fun n => g_X0_choose (F_X0_choose (u n) dp) n 41 [.ref 99, .int (J g), .int tk, .int (J sum), .int (J t), .int (J s)] (hp S m q)) (.inl none) (hp S m' q) ∧ FrC m0 m' ∧ (∀ i : Int, 0 ≤ i → i < g → m' 109 i = tr i) ∧
          m' 99 7 = (chS sz R k (g + 1) tk sum (ups tr g (-1)) (lpS (fun s z => if (tk >>> (J s &&& J 31)) &&& J 1 = J 0 then chS sz R k (g + 1) (tk ||| (J 1 <<< (J s &&& J 31))) (sum + sz g s) (ups tr g s) z else z) r s st)).1 ∧ ∀ i : Int, 0 ≤ i → i < G → m' 110 i = (chS sz R k (g + 1) tk sum (ups tr g (-1)) (lpS (fun s z => if (tk >>> (J s &&& J 31)) &&& J 1 = J 0 then chS sz R k (g + 1) (tk ||| (J 1 <<< (J s &&& J 31))) (sum + sz g s) (ups tr g s) z else z) r s st)).2 i := by
      intro r
      induction r with
      | zero =>
        intro s u m st hu s0 sr F h7 hB hT
        have f5 : m 99 5 = R := (F 99 5 (by decide) (by decide) (by omega)).trans hR.symm
        obtain ⟨m', D, F', T', A', B'⟩ := IH dp (g + 1) tk sum (ups tr g (-1)) (up m 109 g (-1)) st (by omega) (by omega) (by omega) (fun b i h1 h2 h3 => by rw [up_a h1]; exact F b i h1 h2 h3) (by rw [up_a (by decide)]; exact h7) (fun i i0 i1 => by rw [up_a (by decide)]; exact hB i i0 i1) (fun i i0 i1 => by
          by_cases e : i = g
          · rw [e, up_at, ups_at]
          · rw [up_i e, ups_ne e]
            exact hT i i0 (by omega))
        refine ⟨m', ?_, F', fun i i0 i1 => (T' i i0 (by omega)).trans (ups_ne (by omega)), A', B'⟩
        have D3 := De.call (K := fun n r8 => xU r8 fun P7 => some (.inl none, P7)) (De.at (fun n => u (n + 1)) (fun n => by have := hu (n + 1); omega) D) (De.ret _ _)
        refine De.cg 1 (fun n => ?_) D3
        rw [j_X0_choose_41]
        simp (disch := omega) only [b_X0_choose_41, x99_k hs, x99_r0 hs, x99_r1 hs, x99_r2 hs, x99_r3 hs, x99_r4 hs, x99_i5 hs, x99_w5 hs, x99_i6 hs, x99_w6 hs, x99_i7 hs, x99_w7 hs, x109_g hs, x109_s hs, x109_l hs, f5, Option.bind_some, xI, xU, xUt, xIt, J_lit, J_add, J_sub, J_mul, J_neg, J_ltc, J_lec, J_eqc, lt_T, lt_F, le_T, le_F, eq_T, eq_F, ↓reduceIte, ite_not, not_true_eq_false, not_false_eq_true, true_or, or_true, false_or, or_false, true_and, and_true, false_and, and_false, up_get, Nat.reduceEqDiff, Int.reduceNeg, eqN_T, eqN_F]
      | succ r IR =>
        intro s u m st hu s0 sr F h7 hB hT
        have f5 : m 99 5 = R := (F 99 5 (by decide) (by decide) (by omega)).trans hR.symm
        rw [lpS]
        by_cases b : (tk >>> (J s &&& J 31)) &&& J 1 = J 0
        · rw [if_pos b]
          have hs1 := H (up m 109 g s) (fun b i h1 h2 h3 => by rw [up_a h1]; exact F b i h1 h2 h3) g s g0 (by omega) s0 (by omega)
          obtain ⟨m', D, F', T', A', B'⟩ := IH dp (g + 1) (tk ||| (J 1 <<< (J s &&& J 31))) (sum + sz g s) (ups tr g s) (up m 109 g s) st (by omega) (by omega) (by omega) (fun b i h1 h2 h3 => by rw [up_a h1]; exact F b i h1 h2 h3) (by rw [up_a (by decide)]; exact h7) (fun i i0 i1 => by rw [up_a (by decide)]; exact hB i i0 i1) (fun i i0 i1 => by
            by_cases e : i = g
            · rw [e, up_at, ups_at]
            · rw [up_i e, ups_ne e]
              exact hT i i0 (by omega))
          obtain ⟨m'', D2, F2, T2, A2, B2⟩ := IR (s + 1) (fun n => u (n + 1)) m' _ (fun n => by have := hu (n + 1); omega) (by omega) (by omega) F' A' B' (fun i i0 i1 => (T' i i0 (by omega)).trans (ups_ne (by omega)))
          refine ⟨m'', ?_, F2, T2, A2, B2⟩
          have D3 := De.call (K := fun n r21 => xU r21 fun P20 => g_X0_choose (F_X0_choose (u (n + 4)) dp) (n + 3) 41 [.ref 99, .int (J g), .int tk, .int (J sum), .int (J t), .int (J (s + 1))] P20) (De.at (fun n => u (n + 4)) (fun n => by have := hu (n + 4); omega) D) (D2.sh 3)
          refine De.cg 4 (fun n => ?_) D3
          rw [j_X0_choose_41]
          simp (disch := omega) only [b_X0_choose_41, x99_k hs, x99_r0 hs, x99_r1 hs, x99_r2 hs, x99_r3 hs, x99_r4 hs, x99_i5 hs, x99_w5 hs, x99_i6 hs, x99_w6 hs, x99_i7 hs, x99_w7 hs, x109_g hs, x109_s hs, x109_l hs, f5, b, hs1, Option.bind_some, xI, xU, xUt, xIt, J_lit, J_add, J_sub, J_mul, J_neg, J_ltc, J_lec, J_eqc, lt_T, lt_F, le_T, le_F, eq_T, eq_F, ↓reduceIte, ite_not, not_true_eq_false, not_false_eq_true, true_or, or_true, false_or, or_false, true_and, and_true, false_and, and_false, up_get, Nat.reduceEqDiff, Int.reduceNeg, eqN_T, eqN_F]
        · rw [if_neg b]
          obtain ⟨m'', D2, F2, T2, A2, B2⟩ := IR (s + 1) (fun n => u (n + 1)) m st (fun n => by have := hu (n + 1); omega) (by omega) (by omega) F h7 hB hT
          refine ⟨m'', ?_, F2, T2, A2, B2⟩
          refine De.cg 1 (fun n => ?_) D2
          rw [j_X0_choose_41]
          simp (disch := omega) only [b_X0_choose_41, x99_k hs, x99_r0 hs, x99_r1 hs, x99_r2 hs, x99_r3 hs, x99_r4 hs, x99_i5 hs, x99_w5 hs, x99_i6 hs, x99_w6 hs, x99_i7 hs, x99_w7 hs, x109_g hs, x109_s hs, x109_l hs, f5, b, Option.bind_some, xI, xU, xUt, xIt, J_lit, J_add, J_sub, J_mul, J_neg, J_ltc, J_lec, J_eqc, lt_T, lt_F, le_T, le_F, eq_T, eq_F, ↓reduceIte, ite_not, not_true_eq_false, not_false_eq_true, true_or, or_true, false_or, or_false, true_and, and_true, false_and, and_false, up_get, Nat.reduceEqDiff, Int.reduceNeg, eqN_T, eqN_F]
    obtain ⟨m', D, F', T', A', B'⟩ := L R 0 (fun n => n + 1) m st (fun n => by omega) (by omega) (by omega) F h7 hB hT
    refine ⟨m', ?_, F', T', A', B'⟩
    have f6 : m 99 6 = G := (F 99 6 (by decide) (by decide) (by omega)).trans hG.symm
    refine De.cg 1 (fun n => ?_) D
    rw [Fq_X0_choose]
    rw [j_X0_choose_0]
    simp (disch := omega) only [b_X0_choose_0, x99_k hs, x99_r0 hs, x99_r1 hs, x99_r2 hs, x99_r3 hs, x99_r4 hs, x99_i5 hs, x99_w5 hs, x99_i6 hs, x99_w6 hs, x99_i7 hs, x99_w7 hs, f6, Option.bind_some, xI, xU, xUt, xIt, J_lit, J_add, J_sub, J_mul, J_neg, J_ltc, J_lec, J_eqc, lt_T, lt_F, le_T, le_F, eq_T, eq_F, ↓reduceIte, ite_not, not_true_eq_false, not_false_eq_true, true_or, or_true, false_or, or_false, true_and, and_true, false_and, and_false, up_get, Nat.reduceEqDiff, Int.reduceNeg, eqN_T, eqN_F]
theorem q_sends (hs : Sk S) (hG : (G : Int) = m0 139 10) (hR : (R : Int) = m0 139 9) (G4 : G ≤ 4) (R5 : R ≤ 5) (H : ∀ m, FrM m0 m → ∀ g s : Int, 0 ≤ g → g < G → 0 ≤ s → s < R → ∀ n, f_X11_savedBy (n + 3) 0 [.ref 136, .int (J g), .int (J s)] (hp S m q) = some (.inl (some (.int (J (sz g s)))), hp S m q)) :
    ∀ (k dp : Nat) (g : Int) (tk : Int32) (sum : Int) (tr : Int → Int) (m : Nat → Int → Int) (st : St), 0 ≤ g → g + k = G → k < dp → FrM m0 m → m 136 29 = st.1 → (∀ i : Int, 0 ≤ i → i < G → m 151 i = st.2 i) → (∀ i : Int, 0 ≤ i → i < g → m 150 i = tr i) →
    ∃ m', De (fun n => F_X11_sends n dp 0 [.ref 136, .int (J g), .int tk, .int (J sum)] (hp S m q)) (.inl none) (hp S m' q) ∧ FrM m0 m' ∧ (∀ i : Int, 0 ≤ i → i < g → m' 150 i = tr i) ∧ m' 136 29 = (chS sz R k g tk sum tr st).1 ∧ ∀ i : Int, 0 ≤ i → i < G → m' 151 i = (chS sz R k g tk sum tr st).2 i := by
  intro k
  induction k with
  | zero =>
    intro dp g tk sum tr m st g0 gk hd F h7 hB hT
    obtain ⟨dp, rfl⟩ : ∃ d, dp = d + 1 := ⟨dp - 1, by omega⟩
    have f6 : m 139 10 = G := (F 139 10 (by decide) (by decide) (by omega)).trans hG.symm
    by_cases c : J sum ≤ J st.1
    · refine ⟨m, De.cg 4 (g := fun _ => some (.inl none, hp S m q)) (fun n => ?_) (De.ret _ _), F, hT, by rw [chS, if_pos c]; exact h7, by rw [chS, if_pos c]; exact hB⟩
      rw [Fq_X11_sends]
      have c' : ¬ J st.1 < J sum := Int32.not_lt.mpr c
      simp (disch := omega) only [j_X11_sends_0, b_X11_sends_0, x136_k hs, x136_i0 hs, x136_w0 hs, x136_r1 hs, x136_r2 hs, x136_r3 hs, x136_r4 hs, x136_i5 hs, x136_w5 hs, x136_i6 hs, x136_w6 hs, x136_i7 hs, x136_w7 hs, x136_r8 hs, x136_i9 hs, x136_w9 hs, x136_i10 hs, x136_w10 hs, x136_i11 hs, x136_w11 hs, x136_i12 hs, x136_w12 hs, x136_i13 hs, x136_w13 hs, x136_i14 hs, x136_w14 hs, x136_r15 hs, x136_i16 hs, x136_w16 hs, x136_r17 hs, x136_r18 hs, x136_r19 hs, x136_r20 hs, x136_r21 hs, x136_i22 hs, x136_w22 hs, x136_r23 hs, x136_r24 hs, x136_i25 hs, x136_w25 hs, x136_i26 hs, x136_w26 hs, x136_r27 hs, x136_r28 hs, x136_i29 hs, x136_w29 hs, x139_g hs, x139_s hs, x139_l hs, f6, h7, Option.bind_some, xI, xU, J_lit, J_eqc, eq_T, ↓reduceIte, not_true_eq_false, c', Int32.not_lt]
    · have c' : J st.1 < J sum := Int32.not_le.mp c
      have L : ∀ (r : Nat) (i : Int) (u : Nat → Nat) (m : Nat → Int → Int), 0 ≤ i → i + r = G → (∀ i : Int, 0 ≤ i → i < g → m 150 i = tr i) → ∃ m', De (fun n => g_X11_sends (F_X11_sends (u n) dp) n 28 [.ref 136, .int (J g), .int tk, .int (J sum), .int (J i)] (hp S m q)) (.inl none) (hp S m' q) ∧ (∀ b x, ¬ (b = 151 ∧ i ≤ x ∧ x < G) → m' b x = m b x) ∧ ∀ x : Int, i ≤ x → x < G → m' 151 x = tr x := by
        intro r
        induction r with
        | zero =>
          intro i u m i0 ir hT
          refine ⟨m, De.cg 1 (g := fun _ => some (.inl none, hp S m q)) (fun n => ?_) (De.ret _ _), fun b x _ => rfl, fun x x0 x1 => absurd x1 (by omega)⟩
          rw [j_X11_sends_28]
          simp (disch := omega) only [b_X11_sends_28, Option.bind_some, xI, xU, xUt, xIt, J_lit, J_add, J_sub, J_mul, J_neg, J_ltc, J_lec, J_eqc, lt_T, lt_F, le_T, le_F, eq_T, eq_F, ↓reduceIte, ite_not, not_true_eq_false, not_false_eq_true, true_or, or_true, false_or, or_false, true_and, and_true, false_and, and_false, up_get, Nat.reduceEqDiff, Int.reduceNeg, eqN_T, eqN_F]
        | succ r IR =>
          intro i u m i0 ir hT
          obtain ⟨m', D, A, B⟩ := IR (i + 1) (fun n => u (n + 1)) (up m 151 i (m 150 i)) (by omega) (by omega) (fun i i0 i1 => by rw [up_a (by decide)]; exact hT i i0 i1)
          refine ⟨m', De.cg 1 (fun n => ?_) D, fun b x h => ?_, fun x x0 x1 => ?_⟩
          · rw [j_X11_sends_28]
            simp (disch := omega) only [b_X11_sends_28, x136_k hs, x136_i0 hs, x136_w0 hs, x136_r1 hs, x136_r2 hs, x136_r3 hs, x136_r4 hs, x136_i5 hs, x136_w5 hs, x136_i6 hs, x136_w6 hs, x136_i7 hs, x136_w7 hs, x136_r8 hs, x136_i9 hs, x136_w9 hs, x136_i10 hs, x136_w10 hs, x136_i11 hs, x136_w11 hs, x136_i12 hs, x136_w12 hs, x136_i13 hs, x136_w13 hs, x136_i14 hs, x136_w14 hs, x136_r15 hs, x136_i16 hs, x136_w16 hs, x136_r17 hs, x136_r18 hs, x136_r19 hs, x136_r20 hs, x136_r21 hs, x136_i22 hs, x136_w22 hs, x136_r23 hs, x136_r24 hs, x136_i25 hs, x136_w25 hs, x136_i26 hs, x136_w26 hs, x136_r27 hs, x136_r28 hs, x136_i29 hs, x136_w29 hs, x150_g hs, x150_s hs, x150_l hs, x151_g hs, x151_s hs, x151_l hs, Option.bind_some, xI, xU, xUt, xIt, J_lit, J_add, J_sub, J_mul, J_neg, J_ltc, J_lec, J_eqc, lt_T, lt_F, le_T, le_F, eq_T, eq_F, ↓reduceIte, ite_not, not_true_eq_false, not_false_eq_true, true_or, or_true, false_or, or_false, true_and, and_true, false_and, and_false, up_get, Nat.reduceEqDiff, Int.reduceNeg, eqN_T, eqN_F]
          · rw [A b x (by omega), up_get, if_neg (by omega)]
          · by_cases e : x = i
            · subst e
              rw [A 151 x (by omega), up_at]
              exact hT x i0 (by omega)
            · exact B x (by omega) x1
      obtain ⟨m', D, A, B⟩ := L G 0 (fun n => n + 1) (up m 136 29 sum) (by omega) (by omega) (fun i i0 i1 => by rw [up_a (by decide)]; exact hT i i0 i1)
      refine ⟨m', ?_, ?_, ?_, ?_, ?_⟩
      · refine De.cg 1 (fun n => ?_) D
        rw [Fq_X11_sends]
        rw [j_X11_sends_0]
        simp (disch := omega) only [b_X11_sends_0, x136_k hs, x136_i0 hs, x136_w0 hs, x136_r1 hs, x136_r2 hs, x136_r3 hs, x136_r4 hs, x136_i5 hs, x136_w5 hs, x136_i6 hs, x136_w6 hs, x136_i7 hs, x136_w7 hs, x136_r8 hs, x136_i9 hs, x136_w9 hs, x136_i10 hs, x136_w10 hs, x136_i11 hs, x136_w11 hs, x136_i12 hs, x136_w12 hs, x136_i13 hs, x136_w13 hs, x136_i14 hs, x136_w14 hs, x136_r15 hs, x136_i16 hs, x136_w16 hs, x136_r17 hs, x136_r18 hs, x136_r19 hs, x136_r20 hs, x136_r21 hs, x136_i22 hs, x136_w22 hs, x136_r23 hs, x136_r24 hs, x136_i25 hs, x136_w25 hs, x136_i26 hs, x136_w26 hs, x136_r27 hs, x136_r28 hs, x136_i29 hs, x136_w29 hs, x139_g hs, x139_s hs, x139_l hs, f6, h7, Option.bind_some, xI, xU, J_lit, J_eqc, eq_T, ↓reduceIte, not_true_eq_false, c']
      · intro b i h1 h2 h3
        rw [A b i (by omega), up_get, if_neg h3]
        exact F b i h1 h2 h3
      · intro i i0 i1
        rw [A 150 i (by omega), up_a (by decide)]
        exact hT i i0 i1
      · rw [chS, if_neg c, A 136 29 (by omega), up_at]
      · intro i i0 i1
        rw [chS, if_neg c]
        exact B i i0 i1
  | succ k IH =>
    intro dp g tk sum tr m st g0 gk hd F h7 hB hT
    obtain ⟨dp, rfl⟩ : ∃ d, dp = d + 1 := ⟨dp - 1, by omega⟩
    have L : ∀ (r : Nat) (s : Int) (u : Nat → Nat) (m : Nat → Int → Int) (st : St), (∀ n, n ≤ u n) → 0 ≤ s → s + r = R → FrM m0 m → m 136 29 = st.1 → (∀ i : Int, 0 ≤ i → i < G → m 151 i = st.2 i) → (∀ i : Int, 0 ≤ i → i < g → m 150 i = tr i) →
        ∃ m', De (fun n => g_X11_sends (F_X11_sends (u n) dp) n 58 [.ref 136, .int (J g), .int tk, .int (J sum), .int (J s)] (hp S m q)) (.inl none) (hp S m' q) ∧ FrM m0 m' ∧ (∀ i : Int, 0 ≤ i → i < g → m' 150 i = tr i) ∧
          m' 136 29 = (chS sz R k (g + 1) tk sum (ups tr g (-1)) (lpS (fun s z => if (tk >>> (J s &&& J 31)) &&& J 1 = J 0 then chS sz R k (g + 1) (tk ||| (J 1 <<< (J s &&& J 31))) (sum + sz g s) (ups tr g s) z else z) r s st)).1 ∧ ∀ i : Int, 0 ≤ i → i < G → m' 151 i = (chS sz R k (g + 1) tk sum (ups tr g (-1)) (lpS (fun s z => if (tk >>> (J s &&& J 31)) &&& J 1 = J 0 then chS sz R k (g + 1) (tk ||| (J 1 <<< (J s &&& J 31))) (sum + sz g s) (ups tr g s) z else z) r s st)).2 i := by
      intro r
      induction r with
      | zero =>
        intro s u m st hu s0 sr F h7 hB hT
        have f5 : m 139 9 = R := (F 139 9 (by decide) (by decide) (by omega)).trans hR.symm
        obtain ⟨m', D, F', T', A', B'⟩ := IH dp (g + 1) tk sum (ups tr g (-1)) (up m 150 g (-1)) st (by omega) (by omega) (by omega) (fun b i h1 h2 h3 => by rw [up_a h1]; exact F b i h1 h2 h3) (by rw [up_a (by decide)]; exact h7) (fun i i0 i1 => by rw [up_a (by decide)]; exact hB i i0 i1) (fun i i0 i1 => by
          by_cases e : i = g
          · rw [e, up_at, ups_at]
          · rw [up_i e, ups_ne e]
            exact hT i i0 (by omega))
        refine ⟨m', ?_, F', fun i i0 i1 => (T' i i0 (by omega)).trans (ups_ne (by omega)), A', B'⟩
        have D3 := De.call (K := fun n r8 => xU r8 fun P7 => some (.inl none, P7)) (De.at (fun n => u (n + 1)) (fun n => by have := hu (n + 1); omega) D) (De.ret _ _)
        refine De.cg 1 (fun n => ?_) D3
        rw [j_X11_sends_58]
        simp (disch := omega) only [b_X11_sends_58, x136_k hs, x136_i0 hs, x136_w0 hs, x136_r1 hs, x136_r2 hs, x136_r3 hs, x136_r4 hs, x136_i5 hs, x136_w5 hs, x136_i6 hs, x136_w6 hs, x136_i7 hs, x136_w7 hs, x136_r8 hs, x136_i9 hs, x136_w9 hs, x136_i10 hs, x136_w10 hs, x136_i11 hs, x136_w11 hs, x136_i12 hs, x136_w12 hs, x136_i13 hs, x136_w13 hs, x136_i14 hs, x136_w14 hs, x136_r15 hs, x136_i16 hs, x136_w16 hs, x136_r17 hs, x136_r18 hs, x136_r19 hs, x136_r20 hs, x136_r21 hs, x136_i22 hs, x136_w22 hs, x136_r23 hs, x136_r24 hs, x136_i25 hs, x136_w25 hs, x136_i26 hs, x136_w26 hs, x136_r27 hs, x136_r28 hs, x136_i29 hs, x136_w29 hs, x139_g hs, x139_s hs, x139_l hs, x150_g hs, x150_s hs, x150_l hs, f5, Option.bind_some, xI, xU, xUt, xIt, J_lit, J_add, J_sub, J_mul, J_neg, J_ltc, J_lec, J_eqc, lt_T, lt_F, le_T, le_F, eq_T, eq_F, ↓reduceIte, ite_not, not_true_eq_false, not_false_eq_true, true_or, or_true, false_or, or_false, true_and, and_true, false_and, and_false, up_get, Nat.reduceEqDiff, Int.reduceNeg, eqN_T, eqN_F]
      | succ r IR =>
        intro s u m st hu s0 sr F h7 hB hT
        have f5 : m 139 9 = R := (F 139 9 (by decide) (by decide) (by omega)).trans hR.symm
        rw [lpS]
        by_cases b : (tk >>> (J s &&& J 31)) &&& J 1 = J 0
        · have b' : ¬ (tk >>> (J s &&& J 31)) &&& J 1 = J 1 := by rw [b, J_eq (by omega) (by omega) (by omega) (by omega)]; omega
          rw [if_pos b]
          have hs1 := H (up m 150 g s) (fun b i h1 h2 h3 => by rw [up_a h1]; exact F b i h1 h2 h3) g s g0 (by omega) s0 (by omega)
          obtain ⟨m', D, F', T', A', B'⟩ := IH dp (g + 1) (tk ||| (J 1 <<< (J s &&& J 31))) (sum + sz g s) (ups tr g s) (up m 150 g s) st (by omega) (by omega) (by omega) (fun b i h1 h2 h3 => by rw [up_a h1]; exact F b i h1 h2 h3) (by rw [up_a (by decide)]; exact h7) (fun i i0 i1 => by rw [up_a (by decide)]; exact hB i i0 i1) (fun i i0 i1 => by
            by_cases e : i = g
            · rw [e, up_at, ups_at]
            · rw [up_i e, ups_ne e]
              exact hT i i0 (by omega))
          obtain ⟨m'', D2, F2, T2, A2, B2⟩ := IR (s + 1) (fun n => u (n + 1)) m' _ (fun n => by have := hu (n + 1); omega) (by omega) (by omega) F' A' B' (fun i i0 i1 => (T' i i0 (by omega)).trans (ups_ne (by omega)))
          refine ⟨m'', ?_, F2, T2, A2, B2⟩
          have D3 := De.call (K := fun n r21 => xU r21 fun P20 => g_X11_sends (F_X11_sends (u (n + 4)) dp) (n + 3) 58 [.ref 136, .int (J g), .int tk, .int (J sum), .int (J (s + 1))] P20) (De.at (fun n => u (n + 4)) (fun n => by have := hu (n + 4); omega) D) (D2.sh 3)
          refine De.cg 4 (fun n => ?_) D3
          rw [j_X11_sends_58]
          simp (disch := omega) only [b_X11_sends_58, x136_k hs, x136_i0 hs, x136_w0 hs, x136_r1 hs, x136_r2 hs, x136_r3 hs, x136_r4 hs, x136_i5 hs, x136_w5 hs, x136_i6 hs, x136_w6 hs, x136_i7 hs, x136_w7 hs, x136_r8 hs, x136_i9 hs, x136_w9 hs, x136_i10 hs, x136_w10 hs, x136_i11 hs, x136_w11 hs, x136_i12 hs, x136_w12 hs, x136_i13 hs, x136_w13 hs, x136_i14 hs, x136_w14 hs, x136_r15 hs, x136_i16 hs, x136_w16 hs, x136_r17 hs, x136_r18 hs, x136_r19 hs, x136_r20 hs, x136_r21 hs, x136_i22 hs, x136_w22 hs, x136_r23 hs, x136_r24 hs, x136_i25 hs, x136_w25 hs, x136_i26 hs, x136_w26 hs, x136_r27 hs, x136_r28 hs, x136_i29 hs, x136_w29 hs, x139_g hs, x139_s hs, x139_l hs, x150_g hs, x150_s hs, x150_l hs, f5, b', hs1, Option.bind_some, xI, xU, xUt, xIt, J_lit, J_add, J_sub, J_mul, J_neg, J_ltc, J_lec, J_eqc, lt_T, lt_F, le_T, le_F, eq_T, eq_F, ↓reduceIte, ite_not, not_true_eq_false, not_false_eq_true, true_or, or_true, false_or, or_false, true_and, and_true, false_and, and_false, up_get, Nat.reduceEqDiff, Int.reduceNeg, eqN_T, eqN_F]
        · have b' : (tk >>> (J s &&& J 31)) &&& J 1 = J 1 := (and1 _).resolve_left b
          rw [if_neg b]
          obtain ⟨m'', D2, F2, T2, A2, B2⟩ := IR (s + 1) (fun n => u (n + 1)) m st (fun n => by have := hu (n + 1); omega) (by omega) (by omega) F h7 hB hT
          refine ⟨m'', ?_, F2, T2, A2, B2⟩
          refine De.cg 1 (fun n => ?_) D2
          rw [j_X11_sends_58]
          simp (disch := omega) only [b_X11_sends_58, x136_k hs, x136_i0 hs, x136_w0 hs, x136_r1 hs, x136_r2 hs, x136_r3 hs, x136_r4 hs, x136_i5 hs, x136_w5 hs, x136_i6 hs, x136_w6 hs, x136_i7 hs, x136_w7 hs, x136_r8 hs, x136_i9 hs, x136_w9 hs, x136_i10 hs, x136_w10 hs, x136_i11 hs, x136_w11 hs, x136_i12 hs, x136_w12 hs, x136_i13 hs, x136_w13 hs, x136_i14 hs, x136_w14 hs, x136_r15 hs, x136_i16 hs, x136_w16 hs, x136_r17 hs, x136_r18 hs, x136_r19 hs, x136_r20 hs, x136_r21 hs, x136_i22 hs, x136_w22 hs, x136_r23 hs, x136_r24 hs, x136_i25 hs, x136_w25 hs, x136_i26 hs, x136_w26 hs, x136_r27 hs, x136_r28 hs, x136_i29 hs, x136_w29 hs, x139_g hs, x139_s hs, x139_l hs, x150_g hs, x150_s hs, x150_l hs, f5, b', Option.bind_some, xI, xU, xUt, xIt, J_lit, J_add, J_sub, J_mul, J_neg, J_ltc, J_lec, J_eqc, lt_T, lt_F, le_T, le_F, eq_T, eq_F, ↓reduceIte, ite_not, not_true_eq_false, not_false_eq_true, true_or, or_true, false_or, or_false, true_and, and_true, false_and, and_false, up_get, Nat.reduceEqDiff, Int.reduceNeg, eqN_T, eqN_F]
    obtain ⟨m', D, F', T', A', B'⟩ := L R 0 (fun n => n + 1) m st (fun n => by omega) (by omega) (by omega) F h7 hB hT
    refine ⟨m', ?_, F', T', A', B'⟩
    have f6 : m 139 10 = G := (F 139 10 (by decide) (by decide) (by omega)).trans hG.symm
    refine De.cg 1 (fun n => ?_) D
    rw [Fq_X11_sends]
    rw [j_X11_sends_0]
    simp (disch := omega) only [b_X11_sends_0, x136_k hs, x136_i0 hs, x136_w0 hs, x136_r1 hs, x136_r2 hs, x136_r3 hs, x136_r4 hs, x136_i5 hs, x136_w5 hs, x136_i6 hs, x136_w6 hs, x136_i7 hs, x136_w7 hs, x136_r8 hs, x136_i9 hs, x136_w9 hs, x136_i10 hs, x136_w10 hs, x136_i11 hs, x136_w11 hs, x136_i12 hs, x136_w12 hs, x136_i13 hs, x136_w13 hs, x136_i14 hs, x136_w14 hs, x136_r15 hs, x136_i16 hs, x136_w16 hs, x136_r17 hs, x136_r18 hs, x136_r19 hs, x136_r20 hs, x136_r21 hs, x136_i22 hs, x136_w22 hs, x136_r23 hs, x136_r24 hs, x136_i25 hs, x136_w25 hs, x136_i26 hs, x136_w26 hs, x136_r27 hs, x136_r28 hs, x136_i29 hs, x136_w29 hs, x139_g hs, x139_s hs, x139_l hs, f6, Option.bind_some, xI, xU, xUt, xIt, J_lit, J_add, J_sub, J_mul, J_neg, J_ltc, J_lec, J_eqc, lt_T, lt_F, le_T, le_F, eq_T, eq_F, ↓reduceIte, ite_not, not_true_eq_false, not_false_eq_true, true_or, or_true, false_or, or_false, true_and, and_true, false_and, and_false, up_get, Nat.reduceEqDiff, Int.reduceNeg, eqN_T, eqN_F]
end SEND
