/-! who is meant: one tree of partings on either side -/
abbrev un (x y : Int) : Prop := ¬ x = -1 ∧ ¬ y = -1 ∧ ¬ x = y
def p20 (x y : Int) : Int := if un x y then 20 else 0
def p7 (x y : Int) : Int := if un x y then 7 else 0
def pab (x y : Int) : Int := if un x y then ((x - y).natAbs : Int) else 0
def prW (w : Int → Int) (a b : Int) : Int := p20 (w (1061 + 3 * a)) (w (1061 + 3 * b)) + pab (w (1061 + 3 * a + 1)) (w (1061 + 3 * b + 1)) + p7 (w (1061 + 3 * a + 2)) (w (1061 + 3 * b + 2))
/-- what the one numbered k costs with those of the first n that lie in heap h -/
def jnS (pr : Int → Int) (tr : Int → Int) (h : Int) : Nat → Int
  | 0 => 0
  | n + 1 => jnS pr tr h n + (if tr n = h then pr n else 0)
abbrev Spt := Int × Int × (Int → Int)
def lpP (f : Int → Spt → Spt) : Nat → Int → Spt → Spt
  | 0, _, st => st
  | k + 1, s, st => lpP f k (s + 1) (f s st)
def lfP (price heaps : Int) (tr : Int → Int) (st : Spt) : Spt := if 0 ≤ st.1 ∧ (st.1 < price ∨ price = st.1 ∧ st.2.1 ≤ heaps) then st else (price, heaps, tr)
/-- n are left, the next is k -/
def ptS (pr : Int → Int → Int) (ap : Int) : Nat → Nat → Nat → Int → (Int → Int) → Spt → Spt
  | 0, _, heaps, price, tr, st => lfP price heaps tr st
  | n + 1, k, heaps, price, tr, st => ptS pr ap n (k + 1) (heaps + 1) (price + ap) (ups tr k heaps) (lpP (fun h z => ptS pr ap n (k + 1) heaps (price + jnS (fun x => pr x k) tr h k) (ups tr k h) z) heaps 0 st)
theorem jnS_in {pr : Int → Int} {tr : Int → Int} {h : Int} : ∀ n : Nat, (∀ x : Int, 0 ≤ x → x < n → 0 ≤ pr x ∧ pr x ≤ 127) → 0 ≤ jnS pr tr h n ∧ jnS pr tr h n ≤ 127 * n
  | 0, _ => by simp [jnS]
  | n + 1, H => by
    have a := jnS_in (pr := pr) (tr := tr) (h := h) n (fun x x0 x1 => H x x0 (by omega))
    have b := H n (by omega) (by omega)
    rw [jnS]
    split <;> omega
theorem jnS_no {pr : Int → Int} {tr : Int → Int} {h : Int} : ∀ n : Nat, (∀ x : Int, 0 ≤ x → x < n → tr x < h) → jnS pr tr h n = 0
  | 0, _ => rfl
  | n + 1, H => by
    have b := H n (by omega) (by omega)
    rw [jnS, jnS_no n (fun x x0 x1 => H x x0 (by omega)), if_neg (by omega)]
    rfl
theorem jnS_cg {pr : Int → Int} {tr tr' : Int → Int} {h : Int} : ∀ n : Nat, (∀ x : Int, 0 ≤ x → x < n → tr' x = tr x) → jnS pr tr' h n = jnS pr tr h n
  | 0, _ => rfl
  | n + 1, H => by
    rw [jnS, jnS, jnS_cg n (fun x x0 x1 => H x x0 (by omega)), H n (by omega) (by omega)]
/-- too dear already: nothing changes -/
theorem ptS_cut {pr : Int → Int → Int} {ap : Int} (ha : 0 ≤ ap) : ∀ (n k heaps : Nat) (price : Int) (tr : Int → Int) (st : Spt), (∀ x y : Int, 0 ≤ x → x < y → y < k + n → 0 ≤ pr x y ∧ pr x y ≤ 127) → 0 ≤ st.1 → st.1 < price → ptS pr ap n k heaps price tr st = st := by
  intro n
  induction n with
  | zero =>
    intro k heaps price tr st hp h0 h1
    rw [ptS, lfP, if_pos ⟨h0, Or.inl h1⟩]
  | succ n IH =>
    intro k heaps price tr st hp h0 h1
    have L : ∀ (r : Nat) (h : Int), lpP (fun h z => ptS pr ap n (k + 1) heaps (price + jnS (fun x => pr x k) tr h k) (ups tr k h) z) r h st = st := by
      intro r
      induction r with
      | zero => intro h; rfl
      | succ r IR =>
        intro h
        have j := jnS_in (pr := fun x => pr x k) (tr := tr) (h := h) k (fun x x0 x1 => hp x k x0 x1 (by omega))
        rw [lpP, IH (k + 1) heaps _ _ st (fun x y x0 x1 y1 => hp x y x0 x1 (by omega)) h0 (by omega)]
        exact IR (h + 1)
    rw [ptS, L]
    exact IH (k + 1) _ _ _ st (fun x y x0 x1 y1 => hp x y x0 x1 (by omega)) h0 (by omega)
theorem ptS_pos {pr : Int → Int → Int} {ap : Int} (ha : 0 ≤ ap) : ∀ (n k heaps : Nat) (price : Int) (tr : Int → Int) (st : Spt), 0 ≤ price → 0 ≤ (ptS pr ap n k heaps price tr st).1 := by
  intro n
  induction n with
  | zero =>
    intro k heaps price tr st h0
    rw [ptS, lfP]
    split
    · omega
    · exact h0
  | succ n IH =>
    intro k heaps price tr st h0
    rw [ptS]
    exact IH _ _ _ _ _ (by omega)
def FrP (m0 m : Nat → Int → Int) : Prop := ∀ b i, b ≠ 97 → b ≠ 98 → ¬ (b = 93 ∧ 7 ≤ i) → m b i = m0 b i
def FrR (m0 m : Nat → Int → Int) : Prop := ∀ b i, b ≠ 148 → b ≠ 149 → ¬ (b = 136 ∧ (i = 25 ∨ i = 26)) → m b i = m0 b i
/-- the best so far, as the class and as the reference keep it -/
def BsC (N : Nat) (m : Nat → Int → Int) (st : Spt) : Prop := -1 ≤ st.1 ∧ st.1 ≤ 10000 ∧ (st.1 < 0 → m 93 7 = 10000) ∧ (0 ≤ st.1 → m 93 7 = st.1 ∧ m 93 8 = st.2.1 ∧ 0 ≤ st.2.1 ∧ st.2.1 ≤ 7 ∧ ∀ i : Int, 0 ≤ i → i < N → m 98 i = st.2.2 i)
def BsR (N : Nat) (m : Nat → Int → Int) (st : Spt) : Prop := -1 ≤ st.1 ∧ st.1 ≤ 10000 ∧ m 136 25 = st.1 ∧ (0 ≤ st.1 → m 136 26 = st.2.1 ∧ 0 ≤ st.2.1 ∧ st.2.1 ≤ 7 ∧ ∀ i : Int, 0 ≤ i → i < N → m 149 i = st.2.2 i)
theorem Fq_X2_part (n dp : Nat) (as : List Value) (P : xH) : F_X2_part n (dp + 1) 0 as P = g_X2_part (F_X2_part n dp) n 0 as P := by
  first | rfl | rw [F_X2_part]
theorem Fq_X11_parts (n dp : Nat) (as : List Value) (P : xH) : F_X11_parts n (dp + 1) 0 as P = g_X11_parts (F_X11_parts n dp) n 0 as P := by
  first | rfl | rw [F_X11_parts]
theorem fq_X2_part (n : Nat) (as : List Value) (P : xH) : f_X2_part n 0 as P = F_X2_part n 30 0 as P := if_pos rfl
theorem fq_X11_parts (n : Nat) (as : List Value) (P : xH) : f_X11_parts n 0 as P = F_X11_parts n 30 0 as P := if_pos rfl
section PART
variable {S : xH} {m m0 : Nat → Int → Int} {q : Nat → Int → Int64} {ap : Int} {N : Nat} {pr : Int → Int → Int} {tr : Int → Int}
theorem e_areUnlike {x y : Int} (x0 : -1 ≤ x) (x1 : x ≤ 99) (y0 : -1 ≤ y) (y1 : y ≤ 99) (n : Nat) (P : xH) : f_X2_areUnlike (n + 1) 0 [.int (J x), .int (J y)] P = some (.inl (some (.int (J (if un x y then 1 else 0)))), P) := by
  unfold un
  by_cases c1 : x = -1
  · rw [if_neg (fun z => z.1 c1)]
    simp (disch := omega) only [j_X2_areUnlike_0, b_X2_areUnlike_0, Option.bind_some, xI, xU, xUt, xIt, J_lit, J_add, J_sub, J_mul, J_neg, J_ltc, J_lec, J_eqc, lt_T, lt_F, le_T, le_F, eq_T, eq_F, ↓reduceIte, ite_not, not_true_eq_false, not_false_eq_true, true_or, or_true, false_or, or_false, true_and, and_true, false_and, and_false, up_get, Nat.reduceEqDiff, Int.reduceNeg, eqN_T, eqN_F]
  · by_cases c2 : y = -1
    · rw [if_neg (fun z => z.2.1 c2)]
      simp (disch := omega) only [j_X2_areUnlike_0, b_X2_areUnlike_0, Option.bind_some, xI, xU, xUt, xIt, J_lit, J_add, J_sub, J_mul, J_neg, J_ltc, J_lec, J_eqc, lt_T, lt_F, le_T, le_F, eq_T, eq_F, ↓reduceIte, ite_not, not_true_eq_false, not_false_eq_true, true_or, or_true, false_or, or_false, true_and, and_true, false_and, and_false, up_get, Nat.reduceEqDiff, Int.reduceNeg, eqN_T, eqN_F]
    · by_cases c3 : x = y
      · rw [if_neg (fun z => z.2.2 c3)]
        simp (disch := omega) only [j_X2_areUnlike_0, b_X2_areUnlike_0, Option.bind_some, xI, xU, xUt, xIt, J_lit, J_add, J_sub, J_mul, J_neg, J_ltc, J_lec, J_eqc, lt_T, lt_F, le_T, le_F, eq_T, eq_F, ↓reduceIte, ite_not, not_true_eq_false, not_false_eq_true, true_or, or_true, false_or, or_false, true_and, and_true, false_and, and_false, up_get, Nat.reduceEqDiff, Int.reduceNeg, eqN_T, eqN_F]
      · rw [if_pos ⟨c1, c2, c3⟩]
        simp (disch := omega) only [j_X2_areUnlike_0, b_X2_areUnlike_0, Option.bind_some, xI, xU, xUt, xIt, J_lit, J_add, J_sub, J_mul, J_neg, J_ltc, J_lec, J_eqc, lt_T, lt_F, le_T, le_F, eq_T, eq_F, ↓reduceIte, ite_not, not_true_eq_false, not_false_eq_true, true_or, or_true, false_or, or_false, true_and, and_true, false_and, and_false, up_get, Nat.reduceEqDiff, Int.reduceNeg, eqN_T, eqN_F]
/-- the price of two, by the class -/
theorem e_priceOfTwo (hs : Sk S) {a b : Int} (a0 : 0 ≤ a) (a1 : a < 7) (b0 : 0 ≤ b) (b1 : b < 7) (h1 : -1 ≤ m 94 a ∧ m 94 a ≤ 99 ∧ -1 ≤ m 95 a ∧ m 95 a ≤ 99 ∧ -1 ≤ m 96 a ∧ m 96 a ≤ 9) (h2 : -1 ≤ m 94 b ∧ m 94 b ≤ 99 ∧ -1 ≤ m 95 b ∧ m 95 b ≤ 99 ∧ -1 ≤ m 96 b ∧ m 96 b ≤ 9) (n : Nat) : f_X2_priceOfTwo (n + 4) 0 [.ref 93, .int (J a), .int (J b)] (hp S m q) = some (.inl (some (.int (J (p20 (m 94 a) (m 94 b) + pab (m 95 a) (m 95 b) + p7 (m 96 a) (m 96 b))))), hp S m q) := by
  have E3 : ∀ (x y : Int) (n : Nat), f_X2_priceOfTwo (n + 2) 64 [.ref 93, .int (J a), .int (J b), .int (J x), .int (J x), .int (J y)] (hp S m q) = some (.inl (some (.int (J (x + y + p7 (m 96 a) (m 96 b))))), hp S m q) := fun x y n => by
    unfold p7
    by_cases c : un (m 96 a) (m 96 b)
    · have e := fun n => e_areUnlike (x := m 96 a) (y := m 96 b) (by omega) (by omega) (by omega) (by omega) n (hp S m q)
      simp only [if_pos c] at e ⊢
      simp (disch := omega) only [j_X2_priceOfTwo_64, b_X2_priceOfTwo_64, x93_k hs, x93_r0 hs, x93_r1 hs, x93_r2 hs, x93_r3 hs, x93_r4 hs, x93_i5 hs, x93_w5 hs, x93_i6 hs, x93_w6 hs, x93_i7 hs, x93_w7 hs, x93_i8 hs, x93_w8 hs, x96_g hs, x96_s hs, x96_l hs, e, Option.bind_some, xI, xU, xUt, xIt, J_lit, J_add, J_sub, J_mul, J_neg, J_ltc, J_lec, J_eqc, lt_T, lt_F, le_T, le_F, eq_T, eq_F, ↓reduceIte, ite_not, not_true_eq_false, not_false_eq_true, true_or, or_true, false_or, or_false, true_and, and_true, false_and, and_false, up_get, Nat.reduceEqDiff, Int.reduceNeg, eqN_T, eqN_F]
    · have e := fun n => e_areUnlike (x := m 96 a) (y := m 96 b) (by omega) (by omega) (by omega) (by omega) n (hp S m q)
      simp only [if_neg c] at e ⊢
      simp (disch := omega) only [j_X2_priceOfTwo_64, b_X2_priceOfTwo_64, x93_k hs, x93_r0 hs, x93_r1 hs, x93_r2 hs, x93_r3 hs, x93_r4 hs, x93_i5 hs, x93_w5 hs, x93_i6 hs, x93_w6 hs, x93_i7 hs, x93_w7 hs, x93_i8 hs, x93_w8 hs, x96_g hs, x96_s hs, x96_l hs, e, Option.bind_some, xI, xU, xUt, xIt, J_lit, J_add, J_sub, J_mul, J_neg, J_ltc, J_lec, J_eqc, lt_T, lt_F, le_T, le_F, eq_T, eq_F, ↓reduceIte, ite_not, not_true_eq_false, not_false_eq_true, true_or, or_true, false_or, or_false, true_and, and_true, false_and, and_false, up_get, Nat.reduceEqDiff, Int.reduceNeg, eqN_T, eqN_F]
  have E2 : ∀ (x : Int) (n : Nat), f_X2_priceOfTwo (n + 3) 24 [.ref 93, .int (J a), .int (J b), .int (J x)] (hp S m q) = some (.inl (some (.int (J (x + pab (m 95 a) (m 95 b) + p7 (m 96 a) (m 96 b))))), hp S m q) := fun x n => by
    unfold pab
    by_cases c : un (m 95 a) (m 95 b)
    · have e := fun n => e_areUnlike (x := m 95 a) (y := m 95 b) (by omega) (by omega) (by omega) (by omega) n (hp S m q)
      simp only [if_pos c] at e ⊢
      rw [j_X2_priceOfTwo_24]
      simp (disch := omega) only [b_X2_priceOfTwo_24, x93_k hs, x93_r0 hs, x93_r1 hs, x93_r2 hs, x93_r3 hs, x93_r4 hs, x93_i5 hs, x93_w5 hs, x93_i6 hs, x93_w6 hs, x93_i7 hs, x93_w7 hs, x93_i8 hs, x93_w8 hs, x95_g hs, x95_s hs, x95_l hs, e, J_abs, E3, Option.bind_some, xI, xU, xUt, xIt, J_lit, J_add, J_sub, J_mul, J_neg, J_ltc, J_lec, J_eqc, lt_T, lt_F, le_T, le_F, eq_T, eq_F, ↓reduceIte, ite_not, not_true_eq_false, not_false_eq_true, true_or, or_true, false_or, or_false, true_and, and_true, false_and, and_false, up_get, Nat.reduceEqDiff, Int.reduceNeg, eqN_T, eqN_F]
    · have e := fun n => e_areUnlike (x := m 95 a) (y := m 95 b) (by omega) (by omega) (by omega) (by omega) n (hp S m q)
      simp only [if_neg c] at e ⊢
      rw [j_X2_priceOfTwo_24]
      simp (disch := omega) only [b_X2_priceOfTwo_24, x93_k hs, x93_r0 hs, x93_r1 hs, x93_r2 hs, x93_r3 hs, x93_r4 hs, x93_i5 hs, x93_w5 hs, x93_i6 hs, x93_w6 hs, x93_i7 hs, x93_w7 hs, x93_i8 hs, x93_w8 hs, x95_g hs, x95_s hs, x95_l hs, e, J_abs, E3, Option.bind_some, xI, xU, xUt, xIt, J_lit, J_add, J_sub, J_mul, J_neg, J_ltc, J_lec, J_eqc, lt_T, lt_F, le_T, le_F, eq_T, eq_F, ↓reduceIte, ite_not, not_true_eq_false, not_false_eq_true, true_or, or_true, false_or, or_false, true_and, and_true, false_and, and_false, up_get, Nat.reduceEqDiff, Int.reduceNeg, eqN_T, eqN_F]
  unfold p20
  have e := fun n => e_areUnlike (x := m 94 a) (y := m 94 b) (by omega) (by omega) (by omega) (by omega) n (hp S m q)
  by_cases c : un (m 94 a) (m 94 b)
  · simp only [if_pos c] at e ⊢
    rw [j_X2_priceOfTwo_0]
    simp (disch := omega) only [b_X2_priceOfTwo_0, x93_k hs, x93_r0 hs, x93_r1 hs, x93_r2 hs, x93_r3 hs, x93_r4 hs, x93_i5 hs, x93_w5 hs, x93_i6 hs, x93_w6 hs, x93_i7 hs, x93_w7 hs, x93_i8 hs, x93_w8 hs, x94_g hs, x94_s hs, x94_l hs, e, E2, Option.bind_some, xI, xU, xUt, xIt, J_lit, J_add, J_sub, J_mul, J_neg, J_ltc, J_lec, J_eqc, lt_T, lt_F, le_T, le_F, eq_T, eq_F, ↓reduceIte, ite_not, not_true_eq_false, not_false_eq_true, true_or, or_true, false_or, or_false, true_and, and_true, false_and, and_false, up_get, Nat.reduceEqDiff, Int.reduceNeg, eqN_T, eqN_F]
  · simp only [if_neg c] at e ⊢
    rw [j_X2_priceOfTwo_0]
    simp (disch := omega) only [b_X2_priceOfTwo_0, x93_k hs, x93_r0 hs, x93_r1 hs, x93_r2 hs, x93_r3 hs, x93_r4 hs, x93_i5 hs, x93_w5 hs, x93_i6 hs, x93_w6 hs, x93_i7 hs, x93_w7 hs, x93_i8 hs, x93_w8 hs, x94_g hs, x94_s hs, x94_l hs, e, E2, Option.bind_some, xI, xU, xUt, xIt, J_lit, J_add, J_sub, J_mul, J_neg, J_ltc, J_lec, J_eqc, lt_T, lt_F, le_T, le_F, eq_T, eq_F, ↓reduceIte, ite_not, not_true_eq_false, not_false_eq_true, true_or, or_true, false_or, or_false, true_and, and_true, false_and, and_false, up_get, Nat.reduceEqDiff, Int.reduceNeg, eqN_T, eqN_F]
/-- and by the reference -/
theorem e_priceOf (hs : Sk S) {a b : Int} (a0 : 0 ≤ a) (a1 : a < 7) (b0 : 0 ≤ b) (b1 : b < 7) (h1 : -1 ≤ m 139 (1061 + 3 * a) ∧ m 139 (1061 + 3 * a) ≤ 99 ∧ -1 ≤ m 139 (1061 + 3 * a + 1) ∧ m 139 (1061 + 3 * a + 1) ≤ 99 ∧ -1 ≤ m 139 (1061 + 3 * a + 2) ∧ m 139 (1061 + 3 * a + 2) ≤ 9) (h2 : -1 ≤ m 139 (1061 + 3 * b) ∧ m 139 (1061 + 3 * b) ≤ 99 ∧ -1 ≤ m 139 (1061 + 3 * b + 1) ∧ m 139 (1061 + 3 * b + 1) ≤ 99 ∧ -1 ≤ m 139 (1061 + 3 * b + 2) ∧ m 139 (1061 + 3 * b + 2) ≤ 9) (n : Nat) : f_X11_priceOf (n + 4) 0 [.ref 136, .int (J a), .int (J b)] (hp S m q) = some (.inl (some (.int (J (prW (m 139) a b)))), hp S m q) := by
  have E3 : ∀ (x : Int) (n : Nat), f_X11_priceOf (n + 1) 107 [.ref 136, .int (J a), .int (J b), .int (J (1061 + 3 * a)), .int (J (1061 + 3 * b)), .int (J x)] (hp S m q) = some (.inl (some (.int (J (x + p7 (m 139 (1061 + 3 * a + 2)) (m 139 (1061 + 3 * b + 2)))))), hp S m q) := fun x n => by
    unfold p7 un
    by_cases c1 : m 139 (1061 + 3 * a + 2) = -1
    · rw [if_neg (fun z => z.1 c1)]
      simp (disch := omega) only [j_X11_priceOf_107, b_X11_priceOf_107, x136_k hs, x136_i0 hs, x136_w0 hs, x136_r1 hs, x136_r2 hs, x136_r3 hs, x136_r4 hs, x136_i5 hs, x136_w5 hs, x136_i6 hs, x136_w6 hs, x136_i7 hs, x136_w7 hs, x136_r8 hs, x136_i9 hs, x136_w9 hs, x136_i10 hs, x136_w10 hs, x136_i11 hs, x136_w11 hs, x136_i12 hs, x136_w12 hs, x136_i13 hs, x136_w13 hs, x136_i14 hs, x136_w14 hs, x136_r15 hs, x136_i16 hs, x136_w16 hs, x136_r17 hs, x136_r18 hs, x136_r19 hs, x136_r20 hs, x136_r21 hs, x136_i22 hs, x136_w22 hs, x136_r23 hs, x136_r24 hs, x136_i25 hs, x136_w25 hs, x136_i26 hs, x136_w26 hs, x136_r27 hs, x136_r28 hs, x136_i29 hs, x136_w29 hs, x139_g hs, x139_s hs, x139_l hs, Int.add_zero, Option.bind_some, xI, xU, xUt, xIt, J_lit, J_add, J_sub, J_mul, J_neg, J_ltc, J_lec, J_eqc, lt_T, lt_F, le_T, le_F, eq_T, eq_F, ↓reduceIte, ite_not, not_true_eq_false, not_false_eq_true, true_or, or_true, false_or, or_false, true_and, and_true, false_and, and_false, up_get, Nat.reduceEqDiff, Int.reduceNeg, eqN_T, eqN_F]
    · by_cases c2 : m 139 (1061 + 3 * b + 2) = -1
      · rw [if_neg (fun z => z.2.1 c2)]
        simp (disch := omega) only [j_X11_priceOf_107, b_X11_priceOf_107, x136_k hs, x136_i0 hs, x136_w0 hs, x136_r1 hs, x136_r2 hs, x136_r3 hs, x136_r4 hs, x136_i5 hs, x136_w5 hs, x136_i6 hs, x136_w6 hs, x136_i7 hs, x136_w7 hs, x136_r8 hs, x136_i9 hs, x136_w9 hs, x136_i10 hs, x136_w10 hs, x136_i11 hs, x136_w11 hs, x136_i12 hs, x136_w12 hs, x136_i13 hs, x136_w13 hs, x136_i14 hs, x136_w14 hs, x136_r15 hs, x136_i16 hs, x136_w16 hs, x136_r17 hs, x136_r18 hs, x136_r19 hs, x136_r20 hs, x136_r21 hs, x136_i22 hs, x136_w22 hs, x136_r23 hs, x136_r24 hs, x136_i25 hs, x136_w25 hs, x136_i26 hs, x136_w26 hs, x136_r27 hs, x136_r28 hs, x136_i29 hs, x136_w29 hs, x139_g hs, x139_s hs, x139_l hs, Int.add_zero, Option.bind_some, xI, xU, xUt, xIt, J_lit, J_add, J_sub, J_mul, J_neg, J_ltc, J_lec, J_eqc, lt_T, lt_F, le_T, le_F, eq_T, eq_F, ↓reduceIte, ite_not, not_true_eq_false, not_false_eq_true, true_or, or_true, false_or, or_false, true_and, and_true, false_and, and_false, up_get, Nat.reduceEqDiff, Int.reduceNeg, eqN_T, eqN_F]
      · by_cases c3 : m 139 (1061 + 3 * a + 2) = m 139 (1061 + 3 * b + 2)
        · rw [if_neg (fun z => z.2.2 c3)]
          simp (disch := omega) only [j_X11_priceOf_107, b_X11_priceOf_107, x136_k hs, x136_i0 hs, x136_w0 hs, x136_r1 hs, x136_r2 hs, x136_r3 hs, x136_r4 hs, x136_i5 hs, x136_w5 hs, x136_i6 hs, x136_w6 hs, x136_i7 hs, x136_w7 hs, x136_r8 hs, x136_i9 hs, x136_w9 hs, x136_i10 hs, x136_w10 hs, x136_i11 hs, x136_w11 hs, x136_i12 hs, x136_w12 hs, x136_i13 hs, x136_w13 hs, x136_i14 hs, x136_w14 hs, x136_r15 hs, x136_i16 hs, x136_w16 hs, x136_r17 hs, x136_r18 hs, x136_r19 hs, x136_r20 hs, x136_r21 hs, x136_i22 hs, x136_w22 hs, x136_r23 hs, x136_r24 hs, x136_i25 hs, x136_w25 hs, x136_i26 hs, x136_w26 hs, x136_r27 hs, x136_r28 hs, x136_i29 hs, x136_w29 hs, x139_g hs, x139_s hs, x139_l hs, Int.add_zero, Option.bind_some, xI, xU, xUt, xIt, J_lit, J_add, J_sub, J_mul, J_neg, J_ltc, J_lec, J_eqc, lt_T, lt_F, le_T, le_F, eq_T, eq_F, ↓reduceIte, ite_not, not_true_eq_false, not_false_eq_true, true_or, or_true, false_or, or_false, true_and, and_true, false_and, and_false, up_get, Nat.reduceEqDiff, Int.reduceNeg, eqN_T, eqN_F]
        · rw [if_pos ⟨c1, c2, c3⟩]
          simp (disch := omega) only [j_X11_priceOf_107, b_X11_priceOf_107, x136_k hs, x136_i0 hs, x136_w0 hs, x136_r1 hs, x136_r2 hs, x136_r3 hs, x136_r4 hs, x136_i5 hs, x136_w5 hs, x136_i6 hs, x136_w6 hs, x136_i7 hs, x136_w7 hs, x136_r8 hs, x136_i9 hs, x136_w9 hs, x136_i10 hs, x136_w10 hs, x136_i11 hs, x136_w11 hs, x136_i12 hs, x136_w12 hs, x136_i13 hs, x136_w13 hs, x136_i14 hs, x136_w14 hs, x136_r15 hs, x136_i16 hs, x136_w16 hs, x136_r17 hs, x136_r18 hs, x136_r19 hs, x136_r20 hs, x136_r21 hs, x136_i22 hs, x136_w22 hs, x136_r23 hs, x136_r24 hs, x136_i25 hs, x136_w25 hs, x136_i26 hs, x136_w26 hs, x136_r27 hs, x136_r28 hs, x136_i29 hs, x136_w29 hs, x139_g hs, x139_s hs, x139_l hs, Option.bind_some, xI, xU, xUt, xIt, J_lit, J_add, J_sub, J_mul, J_neg, J_ltc, J_lec, J_eqc, lt_T, lt_F, le_T, le_F, eq_T, eq_F, ↓reduceIte, ite_not, not_true_eq_false, not_false_eq_true, true_or, or_true, false_or, or_false, true_and, and_true, false_and, and_false, up_get, Nat.reduceEqDiff, Int.reduceNeg, eqN_T, eqN_F]
  have E2 : ∀ (x : Int) (n : Nat), f_X11_priceOf (n + 2) 58 [.ref 136, .int (J a), .int (J b), .int (J (1061 + 3 * a)), .int (J (1061 + 3 * b)), .int (J x)] (hp S m q) = some (.inl (some (.int (J (x + pab (m 139 (1061 + 3 * a + 1)) (m 139 (1061 + 3 * b + 1)) + p7 (m 139 (1061 + 3 * a + 2)) (m 139 (1061 + 3 * b + 2)))))), hp S m q) := fun x n => by
    rw [j_X11_priceOf_58]
    by_cases c1 : m 139 (1061 + 3 * a + 1) = -1
    · rw [show pab (m 139 (1061 + 3 * a + 1)) (m 139 (1061 + 3 * b + 1)) = 0 from if_neg (fun z => z.1 c1)]
      simp (disch := omega) only [b_X11_priceOf_58, x136_k hs, x136_i0 hs, x136_w0 hs, x136_r1 hs, x136_r2 hs, x136_r3 hs, x136_r4 hs, x136_i5 hs, x136_w5 hs, x136_i6 hs, x136_w6 hs, x136_i7 hs, x136_w7 hs, x136_r8 hs, x136_i9 hs, x136_w9 hs, x136_i10 hs, x136_w10 hs, x136_i11 hs, x136_w11 hs, x136_i12 hs, x136_w12 hs, x136_i13 hs, x136_w13 hs, x136_i14 hs, x136_w14 hs, x136_r15 hs, x136_i16 hs, x136_w16 hs, x136_r17 hs, x136_r18 hs, x136_r19 hs, x136_r20 hs, x136_r21 hs, x136_i22 hs, x136_w22 hs, x136_r23 hs, x136_r24 hs, x136_i25 hs, x136_w25 hs, x136_i26 hs, x136_w26 hs, x136_r27 hs, x136_r28 hs, x136_i29 hs, x136_w29 hs, x139_g hs, x139_s hs, x139_l hs, E3, Int.add_zero, Option.bind_some, xI, xU, xUt, xIt, J_lit, J_add, J_sub, J_mul, J_neg, J_ltc, J_lec, J_eqc, lt_T, lt_F, le_T, le_F, eq_T, eq_F, ↓reduceIte, ite_not, not_true_eq_false, not_false_eq_true, true_or, or_true, false_or, or_false, true_and, and_true, false_and, and_false, up_get, Nat.reduceEqDiff, Int.reduceNeg, eqN_T, eqN_F]
    · by_cases c2 : m 139 (1061 + 3 * b + 1) = -1
      · rw [show pab (m 139 (1061 + 3 * a + 1)) (m 139 (1061 + 3 * b + 1)) = 0 from if_neg (fun z => z.2.1 c2)]
        simp (disch := omega) only [b_X11_priceOf_58, x136_k hs, x136_i0 hs, x136_w0 hs, x136_r1 hs, x136_r2 hs, x136_r3 hs, x136_r4 hs, x136_i5 hs, x136_w5 hs, x136_i6 hs, x136_w6 hs, x136_i7 hs, x136_w7 hs, x136_r8 hs, x136_i9 hs, x136_w9 hs, x136_i10 hs, x136_w10 hs, x136_i11 hs, x136_w11 hs, x136_i12 hs, x136_w12 hs, x136_i13 hs, x136_w13 hs, x136_i14 hs, x136_w14 hs, x136_r15 hs, x136_i16 hs, x136_w16 hs, x136_r17 hs, x136_r18 hs, x136_r19 hs, x136_r20 hs, x136_r21 hs, x136_i22 hs, x136_w22 hs, x136_r23 hs, x136_r24 hs, x136_i25 hs, x136_w25 hs, x136_i26 hs, x136_w26 hs, x136_r27 hs, x136_r28 hs, x136_i29 hs, x136_w29 hs, x139_g hs, x139_s hs, x139_l hs, E3, Int.add_zero, Option.bind_some, xI, xU, xUt, xIt, J_lit, J_add, J_sub, J_mul, J_neg, J_ltc, J_lec, J_eqc, lt_T, lt_F, le_T, le_F, eq_T, eq_F, ↓reduceIte, ite_not, not_true_eq_false, not_false_eq_true, true_or, or_true, false_or, or_false, true_and, and_true, false_and, and_false, up_get, Nat.reduceEqDiff, Int.reduceNeg, eqN_T, eqN_F]
      · rw [show pab (m 139 (1061 + 3 * a + 1)) (m 139 (1061 + 3 * b + 1)) = ((m 139 (1061 + 3 * a + 1) - m 139 (1061 + 3 * b + 1)).natAbs : Int) by unfold pab un; split <;> omega]
        simp (disch := omega) only [b_X11_priceOf_58, x136_k hs, x136_i0 hs, x136_w0 hs, x136_r1 hs, x136_r2 hs, x136_r3 hs, x136_r4 hs, x136_i5 hs, x136_w5 hs, x136_i6 hs, x136_w6 hs, x136_i7 hs, x136_w7 hs, x136_r8 hs, x136_i9 hs, x136_w9 hs, x136_i10 hs, x136_w10 hs, x136_i11 hs, x136_w11 hs, x136_i12 hs, x136_w12 hs, x136_i13 hs, x136_w13 hs, x136_i14 hs, x136_w14 hs, x136_r15 hs, x136_i16 hs, x136_w16 hs, x136_r17 hs, x136_r18 hs, x136_r19 hs, x136_r20 hs, x136_r21 hs, x136_i22 hs, x136_w22 hs, x136_r23 hs, x136_r24 hs, x136_i25 hs, x136_w25 hs, x136_i26 hs, x136_w26 hs, x136_r27 hs, x136_r28 hs, x136_i29 hs, x136_w29 hs, x139_g hs, x139_s hs, x139_l hs, E3, J_abs, Option.bind_some, xI, xU, xUt, xIt, J_lit, J_add, J_sub, J_mul, J_neg, J_ltc, J_lec, J_eqc, lt_T, lt_F, le_T, le_F, eq_T, eq_F, ↓reduceIte, ite_not, not_true_eq_false, not_false_eq_true, true_or, or_true, false_or, or_false, true_and, and_true, false_and, and_false, up_get, Nat.reduceEqDiff, Int.reduceNeg, eqN_T, eqN_F]
  unfold prW
  rw [j_X11_priceOf_0]
  by_cases c1 : m 139 (1061 + 3 * a) = -1
  · rw [show p20 (m 139 (1061 + 3 * a)) (m 139 (1061 + 3 * b)) = 0 from if_neg (fun z => z.1 c1)]
    simp (disch := omega) only [b_X11_priceOf_0, x136_k hs, x136_i0 hs, x136_w0 hs, x136_r1 hs, x136_r2 hs, x136_r3 hs, x136_r4 hs, x136_i5 hs, x136_w5 hs, x136_i6 hs, x136_w6 hs, x136_i7 hs, x136_w7 hs, x136_r8 hs, x136_i9 hs, x136_w9 hs, x136_i10 hs, x136_w10 hs, x136_i11 hs, x136_w11 hs, x136_i12 hs, x136_w12 hs, x136_i13 hs, x136_w13 hs, x136_i14 hs, x136_w14 hs, x136_r15 hs, x136_i16 hs, x136_w16 hs, x136_r17 hs, x136_r18 hs, x136_r19 hs, x136_r20 hs, x136_r21 hs, x136_i22 hs, x136_w22 hs, x136_r23 hs, x136_r24 hs, x136_i25 hs, x136_w25 hs, x136_i26 hs, x136_w26 hs, x136_r27 hs, x136_r28 hs, x136_i29 hs, x136_w29 hs, x139_g hs, x139_s hs, x139_l hs, E2, Option.bind_some, xI, xU, xUt, xIt, J_lit, J_add, J_sub, J_mul, J_neg, J_ltc, J_lec, J_eqc, lt_T, lt_F, le_T, le_F, eq_T, eq_F, ↓reduceIte, ite_not, not_true_eq_false, not_false_eq_true, true_or, or_true, false_or, or_false, true_and, and_true, false_and, and_false, up_get, Nat.reduceEqDiff, Int.reduceNeg, eqN_T, eqN_F]
  · by_cases c2 : m 139 (1061 + 3 * b) = -1
    · rw [show p20 (m 139 (1061 + 3 * a)) (m 139 (1061 + 3 * b)) = 0 from if_neg (fun z => z.2.1 c2)]
      simp (disch := omega) only [b_X11_priceOf_0, x136_k hs, x136_i0 hs, x136_w0 hs, x136_r1 hs, x136_r2 hs, x136_r3 hs, x136_r4 hs, x136_i5 hs, x136_w5 hs, x136_i6 hs, x136_w6 hs, x136_i7 hs, x136_w7 hs, x136_r8 hs, x136_i9 hs, x136_w9 hs, x136_i10 hs, x136_w10 hs, x136_i11 hs, x136_w11 hs, x136_i12 hs, x136_w12 hs, x136_i13 hs, x136_w13 hs, x136_i14 hs, x136_w14 hs, x136_r15 hs, x136_i16 hs, x136_w16 hs, x136_r17 hs, x136_r18 hs, x136_r19 hs, x136_r20 hs, x136_r21 hs, x136_i22 hs, x136_w22 hs, x136_r23 hs, x136_r24 hs, x136_i25 hs, x136_w25 hs, x136_i26 hs, x136_w26 hs, x136_r27 hs, x136_r28 hs, x136_i29 hs, x136_w29 hs, x139_g hs, x139_s hs, x139_l hs, E2, Option.bind_some, xI, xU, xUt, xIt, J_lit, J_add, J_sub, J_mul, J_neg, J_ltc, J_lec, J_eqc, lt_T, lt_F, le_T, le_F, eq_T, eq_F, ↓reduceIte, ite_not, not_true_eq_false, not_false_eq_true, true_or, or_true, false_or, or_false, true_and, and_true, false_and, and_false, up_get, Nat.reduceEqDiff, Int.reduceNeg, eqN_T, eqN_F]
    · by_cases c3 : m 139 (1061 + 3 * a) = m 139 (1061 + 3 * b)
      · rw [show p20 (m 139 (1061 + 3 * a)) (m 139 (1061 + 3 * b)) = 0 from if_neg (fun z => z.2.2 c3)]
        simp (disch := omega) only [b_X11_priceOf_0, x136_k hs, x136_i0 hs, x136_w0 hs, x136_r1 hs, x136_r2 hs, x136_r3 hs, x136_r4 hs, x136_i5 hs, x136_w5 hs, x136_i6 hs, x136_w6 hs, x136_i7 hs, x136_w7 hs, x136_r8 hs, x136_i9 hs, x136_w9 hs, x136_i10 hs, x136_w10 hs, x136_i11 hs, x136_w11 hs, x136_i12 hs, x136_w12 hs, x136_i13 hs, x136_w13 hs, x136_i14 hs, x136_w14 hs, x136_r15 hs, x136_i16 hs, x136_w16 hs, x136_r17 hs, x136_r18 hs, x136_r19 hs, x136_r20 hs, x136_r21 hs, x136_i22 hs, x136_w22 hs, x136_r23 hs, x136_r24 hs, x136_i25 hs, x136_w25 hs, x136_i26 hs, x136_w26 hs, x136_r27 hs, x136_r28 hs, x136_i29 hs, x136_w29 hs, x139_g hs, x139_s hs, x139_l hs, E2, Option.bind_some, xI, xU, xUt, xIt, J_lit, J_add, J_sub, J_mul, J_neg, J_ltc, J_lec, J_eqc, lt_T, lt_F, le_T, le_F, eq_T, eq_F, ↓reduceIte, ite_not, not_true_eq_false, not_false_eq_true, true_or, or_true, false_or, or_false, true_and, and_true, false_and, and_false, up_get, Nat.reduceEqDiff, Int.reduceNeg, eqN_T, eqN_F]
      · rw [show p20 (m 139 (1061 + 3 * a)) (m 139 (1061 + 3 * b)) = 20 from if_pos ⟨c1, c2, c3⟩]
        simp (disch := omega) only [b_X11_priceOf_0, x136_k hs, x136_i0 hs, x136_w0 hs, x136_r1 hs, x136_r2 hs, x136_r3 hs, x136_r4 hs, x136_i5 hs, x136_w5 hs, x136_i6 hs, x136_w6 hs, x136_i7 hs, x136_w7 hs, x136_r8 hs, x136_i9 hs, x136_w9 hs, x136_i10 hs, x136_w10 hs, x136_i11 hs, x136_w11 hs, x136_i12 hs, x136_w12 hs, x136_i13 hs, x136_w13 hs, x136_i14 hs, x136_w14 hs, x136_r15 hs, x136_i16 hs, x136_w16 hs, x136_r17 hs, x136_r18 hs, x136_r19 hs, x136_r20 hs, x136_r21 hs, x136_i22 hs, x136_w22 hs, x136_r23 hs, x136_r24 hs, x136_i25 hs, x136_w25 hs, x136_i26 hs, x136_w26 hs, x136_r27 hs, x136_r28 hs, x136_i29 hs, x136_w29 hs, x139_g hs, x139_s hs, x139_l hs, E2, Int.zero_add, Option.bind_some, xI, xU, xUt, xIt, J_lit, J_add, J_sub, J_mul, J_neg, J_ltc, J_lec, J_eqc, lt_T, lt_F, le_T, le_F, eq_T, eq_F, ↓reduceIte, ite_not, not_true_eq_false, not_false_eq_true, true_or, or_true, false_or, or_false, true_and, and_true, false_and, and_false, up_get, Nat.reduceEqDiff, Int.reduceNeg, eqN_T, eqN_F]
/-- what joining a heap costs -/
theorem q_join (hs : Sk S) {k : Nat} {h : Int} (k7 : k < 7) (h0 : 0 ≤ h) (h1 : h ≤ 7) (hT : ∀ i : Int, 0 ≤ i → i < k → m 97 i = tr i ∧ 0 ≤ tr i ∧ tr i ≤ 7) (H : ∀ a : Int, 0 ≤ a → a < k → ∀ n, f_X2_priceOfTwo (n + 4) 0 [.ref 93, .int (J a), .int (J k)] (hp S m q) = some (.inl (some (.int (J (pr a k)))), hp S m q)) : ∀ r i : Nat, i + r = k → De (fun n => f_X2_priceOfJoining n 5 [.ref 93, .int (J k), .int (J h), .int (J (jnS (fun x => pr x k) tr h i)), .int (J i)] (hp S m q)) (.inl (some (.int (J (jnS (fun x => pr x k) tr h k))))) (hp S m q) := by
  intro r
  induction r with
  | zero =>
    intro i ir
    have ir : i = k := by omega
    subst ir
    refine De.cg 1 (g := fun _ => some (.inl (some (.int (J (jnS (fun x => pr x i) tr h i)))), hp S m q)) (fun n => ?_) (De.ret _ _)
    rw [j_X2_priceOfJoining_5]
    simp (disch := omega) only [b_X2_priceOfJoining_5, Option.bind_some, xI, xU, xUt, xIt, J_lit, J_add, J_sub, J_mul, J_neg, J_ltc, J_lec, J_eqc, lt_T, lt_F, le_T, le_F, eq_T, eq_F, ↓reduceIte, ite_not, not_true_eq_false, not_false_eq_true, true_or, or_true, false_or, or_false, true_and, and_true, false_and, and_false, up_get, Nat.reduceEqDiff, Int.reduceNeg, eqN_T, eqN_F]
  | succ r IR =>
    intro i ir
    have ih := IR (i + 1) (by omega)
    obtain ⟨t1, t2, t3⟩ := hT i (by omega) (by omega)
    have Hi := H i (by omega) (by omega)
    rw [jnS] at ih
    by_cases c : tr i = h
    · rw [if_pos c] at ih
      refine De.cg 5 (fun n => ?_) (ih.sh 4)
      rw [j_X2_priceOfJoining_5]
      simp (disch := omega) only [b_X2_priceOfJoining_5, x93_k hs, x93_r0 hs, x93_r1 hs, x93_r2 hs, x93_r3 hs, x93_r4 hs, x93_i5 hs, x93_w5 hs, x93_i6 hs, x93_w6 hs, x93_i7 hs, x93_w7 hs, x93_i8 hs, x93_w8 hs, x97_g hs, x97_s hs, x97_l hs, t1, Hi, Option.bind_some, xI, xU, xUt, xIt, J_lit, J_add, J_sub, J_mul, J_neg, J_ltc, J_lec, J_eqc, lt_T, lt_F, le_T, le_F, eq_T, eq_F, ↓reduceIte, ite_not, not_true_eq_false, not_false_eq_true, true_or, or_true, false_or, or_false, true_and, and_true, false_and, and_false, up_get, Nat.reduceEqDiff, Int.reduceNeg, eqN_T, eqN_F]
      rfl
    · rw [if_neg c, Int.add_zero] at ih
      refine De.cg 1 (fun n => ?_) ih
      rw [j_X2_priceOfJoining_5]
      simp (disch := omega) only [b_X2_priceOfJoining_5, x93_k hs, x93_r0 hs, x93_r1 hs, x93_r2 hs, x93_r3 hs, x93_r4 hs, x93_i5 hs, x93_w5 hs, x93_i6 hs, x93_w6 hs, x93_i7 hs, x93_w7 hs, x93_i8 hs, x93_w8 hs, x97_g hs, x97_s hs, x97_l hs, t1, Option.bind_some, xI, xU, xUt, xIt, J_lit, J_add, J_sub, J_mul, J_neg, J_ltc, J_lec, J_eqc, lt_T, lt_F, le_T, le_F, eq_T, eq_F, ↓reduceIte, ite_not, not_true_eq_false, not_false_eq_true, true_or, or_true, false_or, or_false, true_and, and_true, false_and, and_false, up_get, Nat.reduceEqDiff, Int.reduceNeg, eqN_T, eqN_F]
      rfl
end PART
