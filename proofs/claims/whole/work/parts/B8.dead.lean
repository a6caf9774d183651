/-! what is dead is forgotten, by both -/
def fdS (w v : Int → Int) (t : Int) : Int → Int := fun i => if 51 ≤ i ∧ i < 2151 ∧ (i - 51) % 7 = 0 ∧ v i = 1 ∧ w (761 + 10 * ((i - 51) / 7 % 30) + 2) + w (761 + 10 * ((i - 51) / 7 % 30) + 3) ≤ t then 0 else v i
def loR (v : Int → Int) (x : Int) : Nat → Int → Int
  | 0 => v
  | n + 1 => loS (loR v x n) n x
def loA (w v : Int → Int) (t : Int) : Nat → Int → Int
  | 0 => v
  | n + 1 => if w (761 + 10 * n + 2) + w (761 + 10 * n + 3) ≤ t then loR (loA w v t n) n (w 0).toNat else loA w v t n
def loB (w v : Int → Int) (t p : Int) : Nat → Int → Int
  | 0 => v
  | n + 1 => if loB w v t p n (51 + 7 * (30 * p + n) + 0) = 1 ∧ w (761 + 10 * n + 2) + w (761 + 10 * n + 3) ≤ t then loS (loB w v t p n) p n else loB w v t p n
def loC (w v : Int → Int) (t : Int) : Nat → Int → Int
  | 0 => v
  | n + 1 => loB w (loC w v t n) t n (w 1).toNat
theorem loR_at {v : Int → Int} {x : Int} (x0 : 0 ≤ x) (i : Int) : ∀ n : Nat, loR v x n i = if 51 + 7 * x ≤ i ∧ (i - 51 - 7 * x) % 210 = 0 ∧ (i - 51 - 7 * x) / 210 < n then 0 else v i
  | 0 => (if_neg (by omega)).symm
  | n + 1 => by
    rw [loR, loS]
    by_cases c : i = 51 + 7 * (30 * n + x) + 0
    · rw [c, ups_at, if_pos (by omega)]
    · rw [ups_ne c, loR_at x0 i n]
      by_cases d : 51 + 7 * x ≤ i ∧ (i - 51 - 7 * x) % 210 = 0 ∧ (i - 51 - 7 * x) / 210 < n
      · rw [if_pos d, if_pos (by omega)]
      · rw [if_neg d, if_neg (by omega)]
theorem loA_at {w v : Int → Int} {t : Int} (tw : 0 ≤ w 0 ∧ w 0 ≤ 10) (i : Int) : ∀ n : Nat, n ≤ 30 → loA w v t n i = if 51 ≤ i ∧ (i - 51) % 7 = 0 ∧ (i - 51) / 210 < w 0 ∧ (i - 51) / 7 % 30 < n ∧ w (761 + 10 * ((i - 51) / 7 % 30) + 2) + w (761 + 10 * ((i - 51) / 7 % 30) + 3) ≤ t then 0 else v i
  | 0, _ => (if_neg (by omega)).symm
  | n + 1, hn => by
    have ih := loA_at (w := w) (v := v) (t := t) tw i n (by omega)
    rw [loA]
    by_cases e : 51 ≤ i ∧ (i - 51) % 7 = 0 ∧ (i - 51) / 7 % 30 = n
    · rw [e.2.2] at ih ⊢
      by_cases c : w (761 + 10 * n + 2) + w (761 + 10 * n + 3) ≤ t
      · rw [if_pos c, loR_at (by omega) i]
        by_cases d : (i - 51) / 210 < w 0
        · rw [if_pos (by omega), if_pos (by omega)]
        · rw [if_neg (by omega), if_neg (by omega), ih, if_neg (by omega)]
      · rw [if_neg c, ih, if_neg (by omega), if_neg (by omega)]
    · by_cases c : w (761 + 10 * n + 2) + w (761 + 10 * n + 3) ≤ t
      · rw [if_pos c, loR_at (by omega) i, if_neg (by omega), ih]
        by_cases d : 51 ≤ i ∧ (i - 51) % 7 = 0 ∧ (i - 51) / 210 < w 0 ∧ (i - 51) / 7 % 30 < n ∧ w (761 + 10 * ((i - 51) / 7 % 30) + 2) + w (761 + 10 * ((i - 51) / 7 % 30) + 3) ≤ t
        · rw [if_pos d, if_pos ⟨d.1, d.2.1, d.2.2.1, by omega, d.2.2.2.2⟩]
        · rw [if_neg d, if_neg (fun z => d ⟨z.1, z.2.1, z.2.2.1, by omega, z.2.2.2.2⟩)]
      · rw [if_neg c, ih]
        by_cases d : 51 ≤ i ∧ (i - 51) % 7 = 0 ∧ (i - 51) / 210 < w 0 ∧ (i - 51) / 7 % 30 < n ∧ w (761 + 10 * ((i - 51) / 7 % 30) + 2) + w (761 + 10 * ((i - 51) / 7 % 30) + 3) ≤ t
        · rw [if_pos d, if_pos ⟨d.1, d.2.1, d.2.2.1, by omega, d.2.2.2.2⟩]
        · rw [if_neg d, if_neg (fun z => d ⟨z.1, z.2.1, z.2.2.1, by omega, z.2.2.2.2⟩)]
theorem loB_at {w v : Int → Int} {t p : Int} (p0 : 0 ≤ p) (i : Int) : ∀ n : Nat, n ≤ 30 → loB w v t p n i = if 51 + 210 * p ≤ i ∧ i < 51 + 210 * p + 7 * n ∧ (i - 51) % 7 = 0 ∧ v i = 1 ∧ w (761 + 10 * ((i - 51) / 7 % 30) + 2) + w (761 + 10 * ((i - 51) / 7 % 30) + 3) ≤ t then 0 else v i
  | 0, _ => (if_neg (by omega)).symm
  | n + 1, hn => by
    have ih := loB_at (w := w) (v := v) (t := t) p0 i n (by omega)
    have ih2 := loB_at (w := w) (v := v) (t := t) p0 (51 + 7 * (30 * p + n) + 0) n (by omega)
    rw [if_neg (by omega)] at ih2
    rw [loB, ih2]
    by_cases e : i = 51 + 7 * (30 * p + n) + 0
    · rw [e, show (51 + 7 * (30 * p + n) + 0 - 51) / 7 % 30 = (n : Int) by omega]
      by_cases c : v (51 + 7 * (30 * p + n) + 0) = 1 ∧ w (761 + 10 * n + 2) + w (761 + 10 * n + 3) ≤ t
      · rw [if_pos c, loS, ups_at, if_pos ⟨by omega, by omega, by omega, c⟩]
      · rw [if_neg c, ih2, if_neg (fun z => c z.2.2.2)]
    · have o : (if v (51 + 7 * (30 * p + n) + 0) = 1 ∧ w (761 + 10 * n + 2) + w (761 + 10 * n + 3) ≤ t then loS (loB w v t p n) p n else loB w v t p n) i = loB w v t p n i := by
        split
        · rw [loS, ups_ne e]
        · rfl
      rw [o, ih]
      by_cases d : 51 + 210 * p ≤ i ∧ i < 51 + 210 * p + 7 * n ∧ (i - 51) % 7 = 0 ∧ v i = 1 ∧ w (761 + 10 * ((i - 51) / 7 % 30) + 2) + w (761 + 10 * ((i - 51) / 7 % 30) + 3) ≤ t
      · rw [if_pos d, if_pos ⟨d.1, by omega, d.2.2⟩]
      · rw [if_neg d, if_neg (fun z => d ⟨z.1, by omega, z.2.2⟩)]
theorem loC_at {w v : Int → Int} {t : Int} (w1 : 0 ≤ w 1 ∧ w 1 ≤ 30) (i : Int) : ∀ n : Nat, loC w v t n i = if 51 ≤ i ∧ i < 51 + 210 * n ∧ (i - 51) % 7 = 0 ∧ (i - 51) / 7 % 30 < w 1 ∧ v i = 1 ∧ w (761 + 10 * ((i - 51) / 7 % 30) + 2) + w (761 + 10 * ((i - 51) / 7 % 30) + 3) ≤ t then 0 else v i
  | 0 => (if_neg (by omega)).symm
  | n + 1 => by
    have ih := loC_at (w := w) (v := v) (t := t) w1 i n
    rw [loC, loB_at (by omega) i _ (by omega)]
    by_cases e : 51 + 210 * (n : Int) ≤ i ∧ i < 51 + 210 * n + 210
    · rw [if_neg (by omega)] at ih
      rw [ih]
      by_cases c : v i = 1 ∧ w (761 + 10 * ((i - 51) / 7 % 30) + 2) + w (761 + 10 * ((i - 51) / 7 % 30) + 3) ≤ t
      · by_cases d : (i - 51) % 7 = 0 ∧ (i - 51) / 7 % 30 < w 1
        · rw [if_pos ⟨e.1, by omega, d.1, c⟩, if_pos ⟨by omega, by omega, d.1, d.2, c⟩]
        · rw [if_neg (fun z => d ⟨z.2.2.1, by omega⟩), if_neg (fun z => d ⟨z.2.2.1, z.2.2.2.1⟩)]
      · rw [if_neg (fun z => c z.2.2.2), if_neg (fun z => c z.2.2.2.2)]
    · rw [if_neg (fun z => e ⟨z.1, by omega⟩), ih]
      by_cases d : 51 ≤ i ∧ i < 51 + 210 * n ∧ (i - 51) % 7 = 0 ∧ (i - 51) / 7 % 30 < w 1 ∧ v i = 1 ∧ w (761 + 10 * ((i - 51) / 7 % 30) + 2) + w (761 + 10 * ((i - 51) / 7 % 30) + 3) ≤ t
      · rw [if_pos d, if_pos ⟨d.1, by omega, d.2.2⟩]
      · rw [if_neg d, if_neg (fun z => d ⟨z.1, by omega, z.2.2⟩)]
section DEAD
variable {S : xH} {m m' m0 : Nat → Int → Int} {q q' : Nat → Int → Int64} {a r : Nat} {told t x p : Int} {w v v' g : Int → Int}
theorem Vok.cell (V : Vok told w v) {i : Int} (h0 : 51 ≤ i) (h1 : i < 2151) (h2 : (i - 51) % 7 = 0) : (v i = 0 ∨ v i = 1) ∧ (v i = 1 → (i - 51) / 210 < w 0 ∧ (i - 51) / 7 % 30 < told) := by
  have z := V.2.2 ((i - 51) / 210) ((i - 51) / 7 % 30) (by omega) (by omega) (by omega) (by omega)
  rw [show 51 + 7 * (30 * ((i - 51) / 210) + (i - 51) / 7 % 30) + 0 = i by omega] at z
  exact ⟨by omega, fun h => (z.2 h).1⟩
theorem loA_fd (V : Vok told w v) (tw : 0 ≤ w 0 ∧ w 0 ≤ 10) (w1 : w 1 ≤ 30) : loA w v t told.toNat = fdS w v t := funext fun i => by
  have v1 := V.1
  rw [loA_at tw i _ (by omega)]
  unfold fdS
  by_cases h : 51 ≤ i ∧ i < 2151 ∧ (i - 51) % 7 = 0
  · obtain ⟨z1, z2⟩ := V.cell h.1 h.2.1 h.2.2
    rcases z1 with e | e
    · rw [if_neg (show ¬ (51 ≤ i ∧ i < 2151 ∧ (i - 51) % 7 = 0 ∧ v i = 1 ∧ _) from fun z => by have := z.2.2.2.1; omega), e, ite_self]
    · have y := z2 e
      by_cases d : w (761 + 10 * ((i - 51) / 7 % 30) + 2) + w (761 + 10 * ((i - 51) / 7 % 30) + 3) ≤ t
      · rw [if_pos ⟨h.1, h.2.2, y.1, by omega, d⟩, if_pos ⟨h.1, h.2.1, h.2.2, e, d⟩]
      · rw [if_neg (fun z => d z.2.2.2.2), if_neg (fun z => d z.2.2.2.2)]
  · rw [if_neg (fun z => h ⟨z.1, by omega, z.2.1⟩), if_neg (fun z => h ⟨z.1, z.2.1, z.2.2.1⟩)]
theorem loC_fd (V : Vok told w v) (tw : 0 ≤ w 0 ∧ w 0 ≤ 10) (w1 : 0 ≤ w 1 ∧ w 1 ≤ 30) : loC w v t (w 0).toNat = fdS w v t := funext fun i => by
  have v1 := V.1
  rw [loC_at w1 i _]
  unfold fdS
  by_cases h : 51 ≤ i ∧ i < 2151 ∧ (i - 51) % 7 = 0 ∧ v i = 1
  · obtain ⟨z1, z2⟩ := V.cell h.1 h.2.1 h.2.2.1
    have y := z2 h.2.2.2
    by_cases d : w (761 + 10 * ((i - 51) / 7 % 30) + 2) + w (761 + 10 * ((i - 51) / 7 % 30) + 3) ≤ t
    · rw [if_pos ⟨h.1, by omega, h.2.2.1, by omega, h.2.2.2, d⟩, if_pos ⟨h.1, h.2.1, h.2.2.1, h.2.2.2, d⟩]
    · rw [if_neg (fun z => d z.2.2.2.2.2), if_neg (fun z => d z.2.2.2.2)]
  · rw [if_neg (fun z => h ⟨z.1, by omega, z.2.2.1, z.2.2.2.2.1⟩), if_neg (fun z => h ⟨z.1, z.2.1, z.2.2.1, z.2.2.2.1⟩)]
theorem fdS_o {i : Int} (h : i < 51 ∨ 2151 ≤ i) : fdS w v t i = v i := if_neg (by omega)
theorem cntp_no {n : Nat} : ∀ k : Nat, k ≤ n → cntp v x n ≤ 0 → cntp v x k ≤ 0 ∧ ∀ p : Int, 0 ≤ p → p < k → v (51 + 7 * (30 * p + x) + 0) ≠ 1 := by
  induction n with
  | zero =>
    intro k hk h
    rw [show k = 0 by omega]
    exact ⟨h, fun p a b => by omega⟩
  | succ n IH =>
    intro k hk h
    have c0 := cntp_in v x n
    rw [cntp] at h
    have h1 : cntp v x n ≤ 0 ∧ v (51 + 7 * (30 * n + x) + 0) ≠ 1 := by
      by_cases d : v (51 + 7 * (30 * n + x) + 0) = 1
      · rw [if_pos d] at h
        omega
      · rw [if_neg d] at h
        exact ⟨by omega, d⟩
    by_cases d : k = n + 1
    · subst d
      refine ⟨by rw [cntp, if_neg h1.2]; omega, fun p a b => ?_⟩
      by_cases e : p = n
      · rw [e]
        exact h1.2
      · exact (IH n (by omega) h1.1).2 p a (by omega)
    · exact IH k (by omega) h1.1
theorem loR_no (V : Vok told w v) (x0 : 0 ≤ x) (x1 : x < 30) (h : ∀ p : Int, 0 ≤ p → p < 10 → v (51 + 7 * (30 * p + x) + 0) ≠ 1) : ∀ n : Nat, n ≤ 10 → loR v x n = v
  | 0, _ => rfl
  | n + 1, hn => by
    rw [loR, loR_no V x0 x1 h n (by omega)]
    have z := (V.2.2 n x (by omega) (by omega) x0 x1).1
    have y := h n (by omega) (by omega)
    exact funext fun i => by
      rw [loS]
      by_cases c : i = 51 + 7 * (30 * n + x) + 0
      · rw [c, ups_at]
        omega
      · rw [ups_ne c]
theorem q_forg36 (x0 : 0 ≤ x) (x1 : x < told) : ∀ (k i : Nat) (m : Nat → Int → Int), (i : Int) + k = w 0 → CX S m q a r told w (loR v x i) g → ∃ m', CX S m' q a r told w (loR v x (w 0).toNat) g ∧ (∀ b z, b ≠ a + 4 → b ≠ a + 16 → b ≠ a + 17 → m' b z = m b z) ∧ ∀ {r' : xR} {P' : xH}, De (fun n => f_X1_forgetDead n 2 [.ref a, .int (J (x + 1))] (hp S m' q)) r' P' → De (fun n => f_X1_forgetDead n 36 [.ref a, .int (J x), .int (J i)] (hp S m q)) r' P' := by
  intro k
  induction k with
  | zero =>
    intro i m hi C
    obtain ⟨⟨hs, hn, hr, r16, a46⟩, W, WC, NC, R⟩ := id C
    have tw := W.1.2.1
    have n3 : m a 3 = w 0 := NC.1.1
    refine ⟨m, by rw [show (w 0).toNat = i by omega]; exact C, fun _ _ _ _ _ => rfl, fun D => ?_⟩
    refine De.step ?_
    simp only [j_X1_forgetDead_36]
    simp (disch := omega) only [b_X1_forgetDead_36, Net0_i3 hn, n3, Option.bind_some, xI, xU, xUt, xIt, J_lit, J_add, J_sub, J_mul, J_neg, J_ltc, J_lec, J_eqc, lt_T, lt_F, le_T, le_F, eq_T, eq_F, ↓reduceIte, ite_not, not_true_eq_false, not_false_eq_true, true_or, or_true, false_or, or_false, true_and, and_true, false_and, and_false, up_get, Nat.reduceEqDiff, Int.reduceNeg, eqN_T, eqN_F]
    exact D
  | succ k IH =>
    intro i m hi C
    obtain ⟨⟨hs, hn, hr, r16, a46⟩, W, WC, NC, R⟩ := id C
    have tw := W.1.2.1
    have n3 : m a 3 = w 0 := NC.1.1
    obtain ⟨m1, E1, N1, F1⟩ := q_lose (S := S) (r := r) (p := (i : Int)) (x := x) hn W NC (by omega) (by omega) x0 x1
    have C1 : CX S m1 q a r told w (loR v x (i + 1)) g := C.net (fun b z h => F1 b z (by omega) (by omega) (by omega)) N1
    obtain ⟨m', C', F', S'⟩ := IH (i + 1) m1 (by omega) C1
    refine ⟨m', C', fun b z h1 h2 h3 => (F' b z h1 h2 h3).trans (F1 b z h1 h2 h3), fun D => ?_⟩
    have Q := S' D
    refine De.step ?_
    simp only [j_X1_forgetDead_36]
    simp (disch := omega) only [b_X1_forgetDead_36, Net0_i3 hn, n3, Net0_k hn, Option.bind_some, xI, xU, xUt, xIt, J_lit, J_add, J_sub, J_mul, J_neg, J_ltc, J_lec, J_eqc, lt_T, lt_F, le_T, le_F, eq_T, eq_F, ↓reduceIte, ite_not, not_true_eq_false, not_false_eq_true, true_or, or_true, false_or, or_false, true_and, and_true, false_and, and_false, up_get, Nat.reduceEqDiff, Int.reduceNeg, eqN_T, eqN_F]
    refine De.call (De.eq 2 E1) ?_
    simp (disch := omega) only [Option.bind_some, xI, xU, xUt, xIt, J_lit, J_add, J_sub, J_mul, J_neg, J_ltc, J_lec, J_eqc, lt_T, lt_F, le_T, le_F, eq_T, eq_F, ↓reduceIte, ite_not, not_true_eq_false, not_false_eq_true, true_or, or_true, false_or, or_false, true_and, and_true, false_and, and_false, up_get, Nat.reduceEqDiff, Int.reduceNeg, eqN_T, eqN_F]
    exact Q
theorem q_forg2 (C0 : CX S m0 q a r told w v g) : ∀ (k i : Nat) (m : Nat → Int → Int), (i : Int) + k = told → CX S m q a r told w (loA w v (v 0) i) g → (∀ b z, b ≠ a + 4 → b ≠ a + 16 → b ≠ a + 17 → m b z = m0 b z) → ∃ m', De (fun n => f_X1_forgetDead n 2 [.ref a, .int (J i)] (hp S m q)) (.inl none) (hp S m' q) ∧ CX S m' q a r told w (loA w v (v 0) told.toNat) g ∧ ∀ b z, b ≠ a + 4 → b ≠ a + 16 → b ≠ a + 17 → m' b z = m0 b z := by
  have V0 := C0.2.2.2.1.vok
  intro k
  induction k with
  | zero =>
    intro i m hi C F
    obtain ⟨⟨hs, hn, hr, r16, a46⟩, W, WC, NC, R⟩ := id C
    have w1 := W.2.1
    have v1 := V0.1
    have n4 : m a 4 = told := NC.1.2.2.1
    refine ⟨m, ?_, by rw [show told.toNat = i by omega]; exact C, F⟩
    refine De.step ?_
    simp only [j_X1_forgetDead_2]
    simp (disch := omega) only [b_X1_forgetDead_2, Net0_i4 hn, n4, Option.bind_some, xI, xU, xUt, xIt, J_lit, J_add, J_sub, J_mul, J_neg, J_ltc, J_lec, J_eqc, lt_T, lt_F, le_T, le_F, eq_T, eq_F, ↓reduceIte, ite_not, not_true_eq_false, not_false_eq_true, true_or, or_true, false_or, or_false, true_and, and_true, false_and, and_false, up_get, Nat.reduceEqDiff, Int.reduceNeg, eqN_T, eqN_F]
    exact De.ret _ _
  | succ k IH =>
    intro i m hi C F
    obtain ⟨⟨hs, hn, hr, r16, a46⟩, W, WC, NC, R⟩ := id C
    have tw := W.1.2.1
    have tw0 := W.1.1
    have w1 := W.2.1
    have v1 := V0.1
    have n4 : m a 4 = told := NC.1.2.2.1
    have n2 : m a 2 = v 0 := by
      have z : m a 2 = loA w v (v 0) i 0 := NC.1.2.1
      rw [z, loA_at ⟨tw0, tw⟩ 0 i (by omega), if_neg (by omega)]
    have sp : m (a + 17) i = cntp (loA w v (v 0) i) i 10 := (NC.2.2.2.2.1 i (by omega) (by omega)).1
    have ci := cntp_in (loA w v (v 0) i) i 10
    have wx := W.2.2 i (by omega) (by omega)
    obtain ⟨-, WF, -⟩ := id WC
    obtain ⟨-, -, f2, f3, -⟩ := WF i (by omega) (by omega)
    by_cases c : 0 < cntp (loA w v (v 0) i) i 10
    · have DD : De (fun n => f_X9_isDead n 0 [.ref 16, .int (J i), .int (J (v 0))] (hp S m q)) (.inl (some (.int (J (if w (761 + 10 * i + 2) + w (761 + 10 * i + 3) ≤ v 0 then 1 else 0))))) (hp S m q) := by
        refine De.step ?_
        simp only [j_X9_isDead_0]
        by_cases d : w (761 + 10 * i + 2) + w (761 + 10 * i + 3) ≤ v 0
        · rw [if_pos d]
          simp (disch := omega) only [b_X9_isDead_0, x16_k hs, x16_r0 hs, x16_r1 hs, x16_r2 hs, x16_i3 hs, x16_w3 hs, x17_m0 hs, x17_m1 hs, x17_m2 hs, x17_m3 hs, x17_m4 hs, x17_m5 hs, x17_m6 hs, x17_m7 hs, x17_m8 hs, x17_l hs, x20_g hs, x20_s hs, x20_l hs, x21_g hs, x21_s hs, x21_l hs, f2, f3, Option.bind_some, xI, xU, xUt, xIt, J_lit, J_add, J_sub, J_mul, J_neg, J_ltc, J_lec, J_eqc, lt_T, lt_F, le_T, le_F, eq_T, eq_F, ↓reduceIte, ite_not, not_true_eq_false, not_false_eq_true, true_or, or_true, false_or, or_false, true_and, and_true, false_and, and_false, up_get, Nat.reduceEqDiff, Int.reduceNeg, eqN_T, eqN_F]
          exact De.ret _ _
        · rw [if_neg d]
          simp (disch := omega) only [b_X9_isDead_0, x16_k hs, x16_r0 hs, x16_r1 hs, x16_r2 hs, x16_i3 hs, x16_w3 hs, x17_m0 hs, x17_m1 hs, x17_m2 hs, x17_m3 hs, x17_m4 hs, x17_m5 hs, x17_m6 hs, x17_m7 hs, x17_m8 hs, x17_l hs, x20_g hs, x20_s hs, x20_l hs, x21_g hs, x21_s hs, x21_l hs, f2, f3, Option.bind_some, xI, xU, xUt, xIt, J_lit, J_add, J_sub, J_mul, J_neg, J_ltc, J_lec, J_eqc, lt_T, lt_F, le_T, le_F, eq_T, eq_F, ↓reduceIte, ite_not, not_true_eq_false, not_false_eq_true, true_or, or_true, false_or, or_false, true_and, and_true, false_and, and_false, up_get, Nat.reduceEqDiff, Int.reduceNeg, eqN_T, eqN_F]
          exact De.ret _ _
      by_cases d : w (761 + 10 * i + 2) + w (761 + 10 * i + 3) ≤ v 0
      · rw [if_pos d] at DD
        obtain ⟨m1, C1, F1, S1⟩ := q_forg36 (v := loA w v (v 0) i) (x := (i : Int)) (by omega) (by omega) (w 0).toNat 0 m (by omega) C
        obtain ⟨m', D', C', F'⟩ := IH (i + 1) m1 (by omega) (by rw [loA, if_pos d]; exact C1) (fun b z h1 h2 h3 => (F1 b z h1 h2 h3).trans (F b z h1 h2 h3))
        refine ⟨m', ?_, C', F'⟩
        have Q := S1 D'
        refine De.step ?_
        simp only [j_X1_forgetDead_2]
        simp (disch := omega) only [b_X1_forgetDead_2, Net0_i4 hn, Net0_r9 hn, Net17_g hn, Net0_r0 hn, Net0_i2 hn, x16_k hs, x16_r0 hs, x16_r1 hs, x16_r2 hs, x16_i3 hs, x16_w3 hs, n4, n2, sp, Option.bind_some, xI, xU, xUt, xIt, J_lit, J_add, J_sub, J_mul, J_neg, J_ltc, J_lec, J_eqc, lt_T, lt_F, le_T, le_F, eq_T, eq_F, ↓reduceIte, ite_not, not_true_eq_false, not_false_eq_true, true_or, or_true, false_or, or_false, true_and, and_true, false_and, and_false, up_get, Nat.reduceEqDiff, Int.reduceNeg, eqN_T, eqN_F]
        refine De.call DD ?_
        simp (disch := omega) only [Option.bind_some, xI, xU, xUt, xIt, J_lit, J_add, J_sub, J_mul, J_neg, J_ltc, J_lec, J_eqc, lt_T, lt_F, le_T, le_F, eq_T, eq_F, ↓reduceIte, ite_not, not_true_eq_false, not_false_eq_true, true_or, or_true, false_or, or_false, true_and, and_true, false_and, and_false, up_get, Nat.reduceEqDiff, Int.reduceNeg, eqN_T, eqN_F]
        exact Q
      · rw [if_neg d] at DD
        obtain ⟨m', D', C', F'⟩ := IH (i + 1) m (by omega) (by rw [loA, if_neg d]; exact C) F
        refine ⟨m', ?_, C', F'⟩
        refine De.step ?_
        simp only [j_X1_forgetDead_2]
        simp (disch := omega) only [b_X1_forgetDead_2, Net0_i4 hn, Net0_r9 hn, Net17_g hn, Net0_r0 hn, Net0_i2 hn, x16_k hs, x16_r0 hs, x16_r1 hs, x16_r2 hs, x16_i3 hs, x16_w3 hs, n4, n2, sp, Option.bind_some, xI, xU, xUt, xIt, J_lit, J_add, J_sub, J_mul, J_neg, J_ltc, J_lec, J_eqc, lt_T, lt_F, le_T, le_F, eq_T, eq_F, ↓reduceIte, ite_not, not_true_eq_false, not_false_eq_true, true_or, or_true, false_or, or_false, true_and, and_true, false_and, and_false, up_get, Nat.reduceEqDiff, Int.reduceNeg, eqN_T, eqN_F]
        refine De.call DD ?_
        simp (disch := omega) only [Option.bind_some, xI, xU, xUt, xIt, J_lit, J_add, J_sub, J_mul, J_neg, J_ltc, J_lec, J_eqc, lt_T, lt_F, le_T, le_F, eq_T, eq_F, ↓reduceIte, ite_not, not_true_eq_false, not_false_eq_true, true_or, or_true, false_or, or_false, true_and, and_true, false_and, and_false, up_get, Nat.reduceEqDiff, Int.reduceNeg, eqN_T, eqN_F]
        exact D'
    · have e : loA w v (v 0) (i + 1) = loA w v (v 0) i := by
        rw [loA]
        split
        · exact loR_no NC.vok (by omega) (by omega) (fun p p0 p1 => (cntp_no (v := loA w v (v 0) i) (x := (i : Int)) (n := 10) 10 (by omega) (by omega)).2 p p0 p1) _ (by omega)
        · rfl
      obtain ⟨m', D', C', F'⟩ := IH (i + 1) m (by omega) (by rw [e]; exact C) F
      refine ⟨m', ?_, C', F'⟩
      refine De.step ?_
      simp only [j_X1_forgetDead_2]
      simp (disch := omega) only [b_X1_forgetDead_2, Net0_i4 hn, Net0_r9 hn, Net17_g hn, n4, sp, Option.bind_some, xI, xU, xUt, xIt, J_lit, J_add, J_sub, J_mul, J_neg, J_ltc, J_lec, J_eqc, lt_T, lt_F, le_T, le_F, eq_T, eq_F, ↓reduceIte, ite_not, not_true_eq_false, not_false_eq_true, true_or, or_true, false_or, or_false, true_and, and_true, false_and, and_false, up_get, Nat.reduceEqDiff, Int.reduceNeg, eqN_T, eqN_F]
      exact D'
theorem q_forgC (C : CX S m q a r told w v g) : ∃ m', De (fun n => f_X1_forgetDead n 0 [.ref a] (hp S m q)) (.inl none) (hp S m' q) ∧ CX S m' q a r told w (fdS w v (v 0)) g ∧ ∀ b z, b ≠ a + 4 → b ≠ a + 16 → b ≠ a + 17 → m' b z = m b z := by
  have W := C.2.1
  have V := C.2.2.2.1.vok
  obtain ⟨m', D, C', F⟩ := q_forg2 C told.toNat 0 m (by have := V.1; omega) C (fun _ _ _ _ _ => rfl)
  rw [loA_fd V ⟨W.1.1, W.1.2.1⟩ W.2.1.2] at C'
  refine ⟨m', ?_, C', F⟩
  refine De.step ?_
  simp only [j_X1_forgetDead_0]
  simp (disch := omega) only [b_X1_forgetDead_0, Option.bind_some, xI, xU, xUt, xIt, J_lit, J_add, J_sub, J_mul, J_neg, J_ltc, J_lec, J_eqc, lt_T, lt_F, le_T, le_F, eq_T, eq_F, ↓reduceIte, ite_not, not_true_eq_false, not_false_eq_true, true_or, or_true, false_or, or_false, true_and, and_true, false_and, and_false, up_get, Nat.reduceEqDiff, Int.reduceNeg, eqN_T, eqN_F]
  exact D
theorem VX.dead (X : VX told w v g) : VX told w (fdS w v (v 0)) g := by
  obtain ⟨S, m, q, a, r, C⟩ := X
  obtain ⟨m', -, C', -⟩ := q_forgC C
  exact ⟨S, m', q, a, r, C'⟩
theorem d_isDeadM (hs : Sk S) (W : Wok (m 139)) (V : Vok told (m 139) (m 137)) (x0 : 0 ≤ x) (x1 : x < m 139 1) : De (fun n => f_X11_isDead n 0 [.ref 136, .int (J x)] (hp S m q)) (.inl (some (.int (J (if m 139 (761 + 10 * x + 2) + m 139 (761 + 10 * x + 3) ≤ m 137 0 then 1 else 0))))) (hp S m q) := by
  have w1 := W.2.1
  have wx := W.2.2 x x0 x1
  have v1 := V.1
  by_cases d : m 139 (761 + 10 * x + 2) + m 139 (761 + 10 * x + 3) ≤ m 137 0
  · rw [if_pos d]
    refine De.step ?_
    simp only [j_X11_isDead_0]
    simp (disch := omega) only [b_X11_isDead_0, x136_k hs, x136_i0 hs, x136_w0 hs, x136_r1 hs, x136_r2 hs, x136_r3 hs, x136_r4 hs, x136_i5 hs, x136_w5 hs, x136_i6 hs, x136_w6 hs, x136_i7 hs, x136_w7 hs, x136_r8 hs, x136_i9 hs, x136_w9 hs, x136_i10 hs, x136_w10 hs, x136_i11 hs, x136_w11 hs, x136_i12 hs, x136_w12 hs, x136_i13 hs, x136_w13 hs, x136_i14 hs, x136_w14 hs, x136_r15 hs, x136_i16 hs, x136_w16 hs, x136_r17 hs, x136_r18 hs, x136_r19 hs, x136_r20 hs, x136_r21 hs, x136_i22 hs, x136_w22 hs, x136_r23 hs, x136_r24 hs, x136_i25 hs, x136_w25 hs, x136_i26 hs, x136_w26 hs, x136_r27 hs, x136_r28 hs, x136_i29 hs, x136_w29 hs, J_lit, Option.bind_some]
    refine De.call (d_tick hs) ?_
    simp (disch := omega) only [x136_k hs, x136_i0 hs, x136_w0 hs, x136_r1 hs, x136_r2 hs, x136_r3 hs, x136_r4 hs, x136_i5 hs, x136_w5 hs, x136_i6 hs, x136_w6 hs, x136_i7 hs, x136_w7 hs, x136_r8 hs, x136_i9 hs, x136_w9 hs, x136_i10 hs, x136_w10 hs, x136_i11 hs, x136_w11 hs, x136_i12 hs, x136_w12 hs, x136_i13 hs, x136_w13 hs, x136_i14 hs, x136_w14 hs, x136_r15 hs, x136_i16 hs, x136_w16 hs, x136_r17 hs, x136_r18 hs, x136_r19 hs, x136_r20 hs, x136_r21 hs, x136_i22 hs, x136_w22 hs, x136_r23 hs, x136_r24 hs, x136_i25 hs, x136_w25 hs, x136_i26 hs, x136_w26 hs, x136_r27 hs, x136_r28 hs, x136_i29 hs, x136_w29 hs, Option.bind_some, xI, xU, xUt, xIt, J_lit, J_add, J_sub, J_mul, J_neg, J_ltc, J_lec, J_eqc, lt_T, lt_F, le_T, le_F, eq_T, eq_F, ↓reduceIte, ite_not, not_true_eq_false, not_false_eq_true, true_or, or_true, false_or, or_false, true_and, and_true, false_and, and_false, up_get, Nat.reduceEqDiff, Int.reduceNeg, eqN_T, eqN_F]
    refine De.call (d_of hs x0 (by omega) (by decide) (by decide)) ?_
    simp (disch := omega) only [x136_k hs, x136_i0 hs, x136_w0 hs, x136_r1 hs, x136_r2 hs, x136_r3 hs, x136_r4 hs, x136_i5 hs, x136_w5 hs, x136_i6 hs, x136_w6 hs, x136_i7 hs, x136_w7 hs, x136_r8 hs, x136_i9 hs, x136_w9 hs, x136_i10 hs, x136_w10 hs, x136_i11 hs, x136_w11 hs, x136_i12 hs, x136_w12 hs, x136_i13 hs, x136_w13 hs, x136_i14 hs, x136_w14 hs, x136_r15 hs, x136_i16 hs, x136_w16 hs, x136_r17 hs, x136_r18 hs, x136_r19 hs, x136_r20 hs, x136_r21 hs, x136_i22 hs, x136_w22 hs, x136_r23 hs, x136_r24 hs, x136_i25 hs, x136_w25 hs, x136_i26 hs, x136_w26 hs, x136_r27 hs, x136_r28 hs, x136_i29 hs, x136_w29 hs, Option.bind_some, xI, xU, xUt, xIt, J_lit, J_add, J_sub, J_mul, J_neg, J_ltc, J_lec, J_eqc, lt_T, lt_F, le_T, le_F, eq_T, eq_F, ↓reduceIte, ite_not, not_true_eq_false, not_false_eq_true, true_or, or_true, false_or, or_false, true_and, and_true, false_and, and_false, up_get, Nat.reduceEqDiff, Int.reduceNeg, eqN_T, eqN_F]
    refine De.call (d_of hs x0 (by omega) (by decide) (by decide)) ?_
    simp (disch := omega) only [Option.bind_some, xI, xU, xUt, xIt, J_lit, J_add, J_sub, J_mul, J_neg, J_ltc, J_lec, J_eqc, lt_T, lt_F, le_T, le_F, eq_T, eq_F, ↓reduceIte, ite_not, not_true_eq_false, not_false_eq_true, true_or, or_true, false_or, or_false, true_and, and_true, false_and, and_false, up_get, Nat.reduceEqDiff, Int.reduceNeg, eqN_T, eqN_F]
    exact De.ret _ _
  · rw [if_neg d]
    refine De.step ?_
    simp only [j_X11_isDead_0]
    simp (disch := omega) only [b_X11_isDead_0, x136_k hs, x136_i0 hs, x136_w0 hs, x136_r1 hs, x136_r2 hs, x136_r3 hs, x136_r4 hs, x136_i5 hs, x136_w5 hs, x136_i6 hs, x136_w6 hs, x136_i7 hs, x136_w7 hs, x136_r8 hs, x136_i9 hs, x136_w9 hs, x136_i10 hs, x136_w10 hs, x136_i11 hs, x136_w11 hs, x136_i12 hs, x136_w12 hs, x136_i13 hs, x136_w13 hs, x136_i14 hs, x136_w14 hs, x136_r15 hs, x136_i16 hs, x136_w16 hs, x136_r17 hs, x136_r18 hs, x136_r19 hs, x136_r20 hs, x136_r21 hs, x136_i22 hs, x136_w22 hs, x136_r23 hs, x136_r24 hs, x136_i25 hs, x136_w25 hs, x136_i26 hs, x136_w26 hs, x136_r27 hs, x136_r28 hs, x136_i29 hs, x136_w29 hs, J_lit, Option.bind_some]
    refine De.call (d_tick hs) ?_
    simp (disch := omega) only [x136_k hs, x136_i0 hs, x136_w0 hs, x136_r1 hs, x136_r2 hs, x136_r3 hs, x136_r4 hs, x136_i5 hs, x136_w5 hs, x136_i6 hs, x136_w6 hs, x136_i7 hs, x136_w7 hs, x136_r8 hs, x136_i9 hs, x136_w9 hs, x136_i10 hs, x136_w10 hs, x136_i11 hs, x136_w11 hs, x136_i12 hs, x136_w12 hs, x136_i13 hs, x136_w13 hs, x136_i14 hs, x136_w14 hs, x136_r15 hs, x136_i16 hs, x136_w16 hs, x136_r17 hs, x136_r18 hs, x136_r19 hs, x136_r20 hs, x136_r21 hs, x136_i22 hs, x136_w22 hs, x136_r23 hs, x136_r24 hs, x136_i25 hs, x136_w25 hs, x136_i26 hs, x136_w26 hs, x136_r27 hs, x136_r28 hs, x136_i29 hs, x136_w29 hs, Option.bind_some, xI, xU, xUt, xIt, J_lit, J_add, J_sub, J_mul, J_neg, J_ltc, J_lec, J_eqc, lt_T, lt_F, le_T, le_F, eq_T, eq_F, ↓reduceIte, ite_not, not_true_eq_false, not_false_eq_true, true_or, or_true, false_or, or_false, true_and, and_true, false_and, and_false, up_get, Nat.reduceEqDiff, Int.reduceNeg, eqN_T, eqN_F]
    refine De.call (d_of hs x0 (by omega) (by decide) (by decide)) ?_
    simp (disch := omega) only [x136_k hs, x136_i0 hs, x136_w0 hs, x136_r1 hs, x136_r2 hs, x136_r3 hs, x136_r4 hs, x136_i5 hs, x136_w5 hs, x136_i6 hs, x136_w6 hs, x136_i7 hs, x136_w7 hs, x136_r8 hs, x136_i9 hs, x136_w9 hs, x136_i10 hs, x136_w10 hs, x136_i11 hs, x136_w11 hs, x136_i12 hs, x136_w12 hs, x136_i13 hs, x136_w13 hs, x136_i14 hs, x136_w14 hs, x136_r15 hs, x136_i16 hs, x136_w16 hs, x136_r17 hs, x136_r18 hs, x136_r19 hs, x136_r20 hs, x136_r21 hs, x136_i22 hs, x136_w22 hs, x136_r23 hs, x136_r24 hs, x136_i25 hs, x136_w25 hs, x136_i26 hs, x136_w26 hs, x136_r27 hs, x136_r28 hs, x136_i29 hs, x136_w29 hs, Option.bind_some, xI, xU, xUt, xIt, J_lit, J_add, J_sub, J_mul, J_neg, J_ltc, J_lec, J_eqc, lt_T, lt_F, le_T, le_F, eq_T, eq_F, ↓reduceIte, ite_not, not_true_eq_false, not_false_eq_true, true_or, or_true, false_or, or_false, true_and, and_true, false_and, and_false, up_get, Nat.reduceEqDiff, Int.reduceNeg, eqN_T, eqN_F]
    refine De.call (d_of hs x0 (by omega) (by decide) (by decide)) ?_
    simp (disch := omega) only [Option.bind_some, xI, xU, xUt, xIt, J_lit, J_add, J_sub, J_mul, J_neg, J_ltc, J_lec, J_eqc, lt_T, lt_F, le_T, le_F, eq_T, eq_F, ↓reduceIte, ite_not, not_true_eq_false, not_false_eq_true, true_or, or_true, false_or, or_false, true_and, and_true, false_and, and_false, up_get, Nat.reduceEqDiff, Int.reduceNeg, eqN_T, eqN_F]
    exact De.ret _ _
/-- numbers of which some copies are gone -/
theorem Vok.less (V : Vok told w v) (e : ∀ i, (i < 51 ∨ 2151 ≤ i ∨ (i - 51) % 7 ≠ 0) → v' i = v i) (h : ∀ i, v' i = v i ∨ v' i = 0) (hw : w 0 ≤ 10) : Vok told w v' := by
  refine ⟨by rw [e 0 (by omega)]; exact V.1, fun p p0 p1 => ?_, fun p x p0 p1 x0 x1 => ?_⟩
  · rw [e _ (by omega), e _ (by omega)]
    exact V.2.1 p p0 p1
  · have z := V.2.2 p x p0 p1 x0 x1
    rw [e (51 + 7 * (30 * p + x) + 1) (by omega), e (51 + 7 * (30 * p + x) + 2) (by omega)]
    rcases h (51 + 7 * (30 * p + x) + 0) with d | d
    · rw [d]
      exact z
    · rw [d]
      exact ⟨⟨by decide, by decide⟩, fun y => absurd y (by decide)⟩
theorem loB_less {n : Nat} (p0 : 0 ≤ p) (hn : n ≤ 30) (i : Int) : loB w v t p n i = v i ∨ loB w v t p n i = 0 := by
  rw [loB_at p0 i n hn]
  split
  · exact Or.inr rfl
  · exact Or.inl rfl
theorem loC_less {n : Nat} (w1 : 0 ≤ w 1 ∧ w 1 ≤ 30) (i : Int) : loC w v t n i = v i ∨ loC w v t n i = 0 := by
  rw [loC_at w1 i n]
  split
  · exact Or.inr rfl
  · exact Or.inl rfl
theorem q_goes57 (hs : Sk S) (W : Wok w) (V : Vok told w v) (p0 : 0 ≤ p) (p1 : p < w 0) : ∀ (k i : Nat) (m : Nat → Int → Int), (i : Int) + k = w 1 → m 139 = w → (∀ b z, b ≠ 137 → m b z = m0 b z) → m 137 = loB w v (v 0) p i → ∃ m', m' 137 = loB w v (v 0) p (w 1).toNat ∧ (∀ b z, b ≠ 137 → m' b z = m0 b z) ∧ ∀ {r' : xR} {P' : xH}, De (fun n => f_X11_goesOn n 47 [.ref 136, .int (J (p + 1))] (hp S m' q)) r' P' → De (fun n => f_X11_goesOn n 57 [.ref 136, .int (J p), .int (J i)] (hp S m q)) r' P' := by
  have tw := W.1.2.1
  have w1 := W.2.1
  intro k
  induction k with
  | zero =>
    intro i m hi e9 F G
    refine ⟨m, by rw [G, show (w 1).toNat = i by omega], F, fun D => ?_⟩
    refine De.step ?_
    simp only [j_X11_goesOn_57]
    simp (disch := omega) only [b_X11_goesOn_57, x136_k hs, x136_i0 hs, x136_w0 hs, x136_r1 hs, x136_r2 hs, x136_r3 hs, x136_r4 hs, x136_i5 hs, x136_w5 hs, x136_i6 hs, x136_w6 hs, x136_i7 hs, x136_w7 hs, x136_r8 hs, x136_i9 hs, x136_w9 hs, x136_i10 hs, x136_w10 hs, x136_i11 hs, x136_w11 hs, x136_i12 hs, x136_w12 hs, x136_i13 hs, x136_w13 hs, x136_i14 hs, x136_w14 hs, x136_r15 hs, x136_i16 hs, x136_w16 hs, x136_r17 hs, x136_r18 hs, x136_r19 hs, x136_r20 hs, x136_r21 hs, x136_i22 hs, x136_w22 hs, x136_r23 hs, x136_r24 hs, x136_i25 hs, x136_w25 hs, x136_i26 hs, x136_w26 hs, x136_r27 hs, x136_r28 hs, x136_i29 hs, x136_w29 hs, Option.bind_some]
    refine De.call (d_words hs) ?_
    simp (disch := omega) only [e9, Option.bind_some, xI, xU, xUt, xIt, J_lit, J_add, J_sub, J_mul, J_neg, J_ltc, J_lec, J_eqc, lt_T, lt_F, le_T, le_F, eq_T, eq_F, ↓reduceIte, ite_not, not_true_eq_false, not_false_eq_true, true_or, or_true, false_or, or_false, true_and, and_true, false_and, and_false, up_get, Nat.reduceEqDiff, Int.reduceNeg, eqN_T, eqN_F]
    exact D
  | succ k IH =>
    intro i m hi e9 F G
    have V1 : Vok told w (m 137) := by
      rw [G]
      exact V.less (fun i hi => by rw [loB_at p0 i _ (by omega), if_neg (by omega)]) (fun j => loB_less p0 (by omega) j) tw
    have g0 : m 137 0 = v 0 := by rw [G, loB_at p0 0 _ (by omega), if_neg (by omega)]
    have vv := (V1.2.2 p i p0 (by omega) (by omega) (by omega)).1
    have DH := d_has (q := q) (m := m) (p := p) (x := (i : Int)) hs p0 (by omega) (by omega) (by omega) vv.1 vv.2
    have DI := d_isDeadM (q := q) (m := m) (x := (i : Int)) (told := told) hs (by rw [e9]; exact W) (by rw [e9]; exact V1) (by omega) (by rw [e9]; omega)
    rw [e9, g0] at DI
    by_cases c : m 137 (51 + 7 * (30 * p + i) + 0) = 1
    · rw [if_pos c] at DH
      by_cases d : w (761 + 10 * i + 2) + w (761 + 10 * i + 3) ≤ v 0
      · rw [if_pos d] at DI
        obtain ⟨m', G', F', S'⟩ := IH (i + 1) (up m 137 (51 + 7 * (30 * p + i) + 0) 0) (by omega) ((up_row (by decide)).trans e9) (fun b z h => (up_a h).trans (F b z h)) (by rw [row_up, loB, if_pos ⟨by rw [← G]; exact c, d⟩, ← G]; rfl)
        refine ⟨m', G', F', fun D => ?_⟩
        have Q := S' D
        refine De.step ?_
        simp only [j_X11_goesOn_57]
        simp (disch := omega) only [b_X11_goesOn_57, x136_k hs, x136_i0 hs, x136_w0 hs, x136_r1 hs, x136_r2 hs, x136_r3 hs, x136_r4 hs, x136_i5 hs, x136_w5 hs, x136_i6 hs, x136_w6 hs, x136_i7 hs, x136_w7 hs, x136_r8 hs, x136_i9 hs, x136_w9 hs, x136_i10 hs, x136_w10 hs, x136_i11 hs, x136_w11 hs, x136_i12 hs, x136_w12 hs, x136_i13 hs, x136_w13 hs, x136_i14 hs, x136_w14 hs, x136_r15 hs, x136_i16 hs, x136_w16 hs, x136_r17 hs, x136_r18 hs, x136_r19 hs, x136_r20 hs, x136_r21 hs, x136_i22 hs, x136_w22 hs, x136_r23 hs, x136_r24 hs, x136_i25 hs, x136_w25 hs, x136_i26 hs, x136_w26 hs, x136_r27 hs, x136_r28 hs, x136_i29 hs, x136_w29 hs, Option.bind_some]
        refine De.call (d_words hs) ?_
        simp (disch := omega) only [e9, x136_k hs, x136_i0 hs, x136_w0 hs, x136_r1 hs, x136_r2 hs, x136_r3 hs, x136_r4 hs, x136_i5 hs, x136_w5 hs, x136_i6 hs, x136_w6 hs, x136_i7 hs, x136_w7 hs, x136_r8 hs, x136_i9 hs, x136_w9 hs, x136_i10 hs, x136_w10 hs, x136_i11 hs, x136_w11 hs, x136_i12 hs, x136_w12 hs, x136_i13 hs, x136_w13 hs, x136_i14 hs, x136_w14 hs, x136_r15 hs, x136_i16 hs, x136_w16 hs, x136_r17 hs, x136_r18 hs, x136_r19 hs, x136_r20 hs, x136_r21 hs, x136_i22 hs, x136_w22 hs, x136_r23 hs, x136_r24 hs, x136_i25 hs, x136_w25 hs, x136_i26 hs, x136_w26 hs, x136_r27 hs, x136_r28 hs, x136_i29 hs, x136_w29 hs, Option.bind_some, xI, xU, xUt, xIt, J_lit, J_add, J_sub, J_mul, J_neg, J_ltc, J_lec, J_eqc, lt_T, lt_F, le_T, le_F, eq_T, eq_F, ↓reduceIte, ite_not, not_true_eq_false, not_false_eq_true, true_or, or_true, false_or, or_false, true_and, and_true, false_and, and_false, up_get, Nat.reduceEqDiff, Int.reduceNeg, eqN_T, eqN_F]
        refine De.call DH ?_
        simp (disch := omega) only [x136_k hs, x136_i0 hs, x136_w0 hs, x136_r1 hs, x136_r2 hs, x136_r3 hs, x136_r4 hs, x136_i5 hs, x136_w5 hs, x136_i6 hs, x136_w6 hs, x136_i7 hs, x136_w7 hs, x136_r8 hs, x136_i9 hs, x136_w9 hs, x136_i10 hs, x136_w10 hs, x136_i11 hs, x136_w11 hs, x136_i12 hs, x136_w12 hs, x136_i13 hs, x136_w13 hs, x136_i14 hs, x136_w14 hs, x136_r15 hs, x136_i16 hs, x136_w16 hs, x136_r17 hs, x136_r18 hs, x136_r19 hs, x136_r20 hs, x136_r21 hs, x136_i22 hs, x136_w22 hs, x136_r23 hs, x136_r24 hs, x136_i25 hs, x136_w25 hs, x136_i26 hs, x136_w26 hs, x136_r27 hs, x136_r28 hs, x136_i29 hs, x136_w29 hs, Option.bind_some, xI, xU, xUt, xIt, J_lit, J_add, J_sub, J_mul, J_neg, J_ltc, J_lec, J_eqc, lt_T, lt_F, le_T, le_F, eq_T, eq_F, ↓reduceIte, ite_not, not_true_eq_false, not_false_eq_true, true_or, or_true, false_or, or_false, true_and, and_true, false_and, and_false, up_get, Nat.reduceEqDiff, Int.reduceNeg, eqN_T, eqN_F]
        refine De.call DI ?_
        simp (disch := omega) only [x136_k hs, x136_i0 hs, x136_w0 hs, x136_r1 hs, x136_r2 hs, x136_r3 hs, x136_r4 hs, x136_i5 hs, x136_w5 hs, x136_i6 hs, x136_w6 hs, x136_i7 hs, x136_w7 hs, x136_r8 hs, x136_i9 hs, x136_w9 hs, x136_i10 hs, x136_w10 hs, x136_i11 hs, x136_w11 hs, x136_i12 hs, x136_w12 hs, x136_i13 hs, x136_w13 hs, x136_i14 hs, x136_w14 hs, x136_r15 hs, x136_i16 hs, x136_w16 hs, x136_r17 hs, x136_r18 hs, x136_r19 hs, x136_r20 hs, x136_r21 hs, x136_i22 hs, x136_w22 hs, x136_r23 hs, x136_r24 hs, x136_i25 hs, x136_w25 hs, x136_i26 hs, x136_w26 hs, x136_r27 hs, x136_r28 hs, x136_i29 hs, x136_w29 hs, Option.bind_some, xI, xU, xUt, xIt, J_lit, J_add, J_sub, J_mul, J_neg, J_ltc, J_lec, J_eqc, lt_T, lt_F, le_T, le_F, eq_T, eq_F, ↓reduceIte, ite_not, not_true_eq_false, not_false_eq_true, true_or, or_true, false_or, or_false, true_and, and_true, false_and, and_false, up_get, Nat.reduceEqDiff, Int.reduceNeg, eqN_T, eqN_F]
        refine De.call (d_copyAt p i 0 _) ?_
        simp (disch := omega) only [x136_k hs, x136_i0 hs, x136_w0 hs, x136_r1 hs, x136_r2 hs, x136_r3 hs, x136_r4 hs, x136_i5 hs, x136_w5 hs, x136_i6 hs, x136_w6 hs, x136_i7 hs, x136_w7 hs, x136_r8 hs, x136_i9 hs, x136_w9 hs, x136_i10 hs, x136_w10 hs, x136_i11 hs, x136_w11 hs, x136_i12 hs, x136_w12 hs, x136_i13 hs, x136_w13 hs, x136_i14 hs, x136_w14 hs, x136_r15 hs, x136_i16 hs, x136_w16 hs, x136_r17 hs, x136_r18 hs, x136_r19 hs, x136_r20 hs, x136_r21 hs, x136_i22 hs, x136_w22 hs, x136_r23 hs, x136_r24 hs, x136_i25 hs, x136_w25 hs, x136_i26 hs, x136_w26 hs, x136_r27 hs, x136_r28 hs, x136_i29 hs, x136_w29 hs, x137_g hs, x137_s hs, x137_l hs, Option.bind_some, xI, xU, xUt, xIt, J_lit, J_add, J_sub, J_mul, J_neg, J_ltc, J_lec, J_eqc, lt_T, lt_F, le_T, le_F, eq_T, eq_F, ↓reduceIte, ite_not, not_true_eq_false, not_false_eq_true, true_or, or_true, false_or, or_false, true_and, and_true, false_and, and_false, up_get, Nat.reduceEqDiff, Int.reduceNeg, eqN_T, eqN_F]
        exact Q
      · rw [if_neg d] at DI
        obtain ⟨m', G', F', S'⟩ := IH (i + 1) m (by omega) e9 F (by rw [loB, if_neg (fun z => d z.2)]; exact G)
        refine ⟨m', G', F', fun D => ?_⟩
        have Q := S' D
        refine De.step ?_
        simp only [j_X11_goesOn_57]
        simp (disch := omega) only [b_X11_goesOn_57, x136_k hs, x136_i0 hs, x136_w0 hs, x136_r1 hs, x136_r2 hs, x136_r3 hs, x136_r4 hs, x136_i5 hs, x136_w5 hs, x136_i6 hs, x136_w6 hs, x136_i7 hs, x136_w7 hs, x136_r8 hs, x136_i9 hs, x136_w9 hs, x136_i10 hs, x136_w10 hs, x136_i11 hs, x136_w11 hs, x136_i12 hs, x136_w12 hs, x136_i13 hs, x136_w13 hs, x136_i14 hs, x136_w14 hs, x136_r15 hs, x136_i16 hs, x136_w16 hs, x136_r17 hs, x136_r18 hs, x136_r19 hs, x136_r20 hs, x136_r21 hs, x136_i22 hs, x136_w22 hs, x136_r23 hs, x136_r24 hs, x136_i25 hs, x136_w25 hs, x136_i26 hs, x136_w26 hs, x136_r27 hs, x136_r28 hs, x136_i29 hs, x136_w29 hs, Option.bind_some]
        refine De.call (d_words hs) ?_
        simp (disch := omega) only [e9, x136_k hs, x136_i0 hs, x136_w0 hs, x136_r1 hs, x136_r2 hs, x136_r3 hs, x136_r4 hs, x136_i5 hs, x136_w5 hs, x136_i6 hs, x136_w6 hs, x136_i7 hs, x136_w7 hs, x136_r8 hs, x136_i9 hs, x136_w9 hs, x136_i10 hs, x136_w10 hs, x136_i11 hs, x136_w11 hs, x136_i12 hs, x136_w12 hs, x136_i13 hs, x136_w13 hs, x136_i14 hs, x136_w14 hs, x136_r15 hs, x136_i16 hs, x136_w16 hs, x136_r17 hs, x136_r18 hs, x136_r19 hs, x136_r20 hs, x136_r21 hs, x136_i22 hs, x136_w22 hs, x136_r23 hs, x136_r24 hs, x136_i25 hs, x136_w25 hs, x136_i26 hs, x136_w26 hs, x136_r27 hs, x136_r28 hs, x136_i29 hs, x136_w29 hs, Option.bind_some, xI, xU, xUt, xIt, J_lit, J_add, J_sub, J_mul, J_neg, J_ltc, J_lec, J_eqc, lt_T, lt_F, le_T, le_F, eq_T, eq_F, ↓reduceIte, ite_not, not_true_eq_false, not_false_eq_true, true_or, or_true, false_or, or_false, true_and, and_true, false_and, and_false, up_get, Nat.reduceEqDiff, Int.reduceNeg, eqN_T, eqN_F]
        refine De.call DH ?_
        simp (disch := omega) only [x136_k hs, x136_i0 hs, x136_w0 hs, x136_r1 hs, x136_r2 hs, x136_r3 hs, x136_r4 hs, x136_i5 hs, x136_w5 hs, x136_i6 hs, x136_w6 hs, x136_i7 hs, x136_w7 hs, x136_r8 hs, x136_i9 hs, x136_w9 hs, x136_i10 hs, x136_w10 hs, x136_i11 hs, x136_w11 hs, x136_i12 hs, x136_w12 hs, x136_i13 hs, x136_w13 hs, x136_i14 hs, x136_w14 hs, x136_r15 hs, x136_i16 hs, x136_w16 hs, x136_r17 hs, x136_r18 hs, x136_r19 hs, x136_r20 hs, x136_r21 hs, x136_i22 hs, x136_w22 hs, x136_r23 hs, x136_r24 hs, x136_i25 hs, x136_w25 hs, x136_i26 hs, x136_w26 hs, x136_r27 hs, x136_r28 hs, x136_i29 hs, x136_w29 hs, Option.bind_some, xI, xU, xUt, xIt, J_lit, J_add, J_sub, J_mul, J_neg, J_ltc, J_lec, J_eqc, lt_T, lt_F, le_T, le_F, eq_T, eq_F, ↓reduceIte, ite_not, not_true_eq_false, not_false_eq_true, true_or, or_true, false_or, or_false, true_and, and_true, false_and, and_false, up_get, Nat.reduceEqDiff, Int.reduceNeg, eqN_T, eqN_F]
        refine De.call DI ?_
        simp (disch := omega) only [Option.bind_some, xI, xU, xUt, xIt, J_lit, J_add, J_sub, J_mul, J_neg, J_ltc, J_lec, J_eqc, lt_T, lt_F, le_T, le_F, eq_T, eq_F, ↓reduceIte, ite_not, not_true_eq_false, not_false_eq_true, true_or, or_true, false_or, or_false, true_and, and_true, false_and, and_false, up_get, Nat.reduceEqDiff, Int.reduceNeg, eqN_T, eqN_F]
        exact Q
    · rw [if_neg c] at DH
      obtain ⟨m', G', F', S'⟩ := IH (i + 1) m (by omega) e9 F (by rw [loB, if_neg (fun z => c (by rw [G]; exact z.1))]; exact G)
      refine ⟨m', G', F', fun D => ?_⟩
      have Q := S' D
      refine De.step ?_
      simp only [j_X11_goesOn_57]
      simp (disch := omega) only [b_X11_goesOn_57, x136_k hs, x136_i0 hs, x136_w0 hs, x136_r1 hs, x136_r2 hs, x136_r3 hs, x136_r4 hs, x136_i5 hs, x136_w5 hs, x136_i6 hs, x136_w6 hs, x136_i7 hs, x136_w7 hs, x136_r8 hs, x136_i9 hs, x136_w9 hs, x136_i10 hs, x136_w10 hs, x136_i11 hs, x136_w11 hs, x136_i12 hs, x136_w12 hs, x136_i13 hs, x136_w13 hs, x136_i14 hs, x136_w14 hs, x136_r15 hs, x136_i16 hs, x136_w16 hs, x136_r17 hs, x136_r18 hs, x136_r19 hs, x136_r20 hs, x136_r21 hs, x136_i22 hs, x136_w22 hs, x136_r23 hs, x136_r24 hs, x136_i25 hs, x136_w25 hs, x136_i26 hs, x136_w26 hs, x136_r27 hs, x136_r28 hs, x136_i29 hs, x136_w29 hs, Option.bind_some]
      refine De.call (d_words hs) ?_
      simp (disch := omega) only [e9, x136_k hs, x136_i0 hs, x136_w0 hs, x136_r1 hs, x136_r2 hs, x136_r3 hs, x136_r4 hs, x136_i5 hs, x136_w5 hs, x136_i6 hs, x136_w6 hs, x136_i7 hs, x136_w7 hs, x136_r8 hs, x136_i9 hs, x136_w9 hs, x136_i10 hs, x136_w10 hs, x136_i11 hs, x136_w11 hs, x136_i12 hs, x136_w12 hs, x136_i13 hs, x136_w13 hs, x136_i14 hs, x136_w14 hs, x136_r15 hs, x136_i16 hs, x136_w16 hs, x136_r17 hs, x136_r18 hs, x136_r19 hs, x136_r20 hs, x136_r21 hs, x136_i22 hs, x136_w22 hs, x136_r23 hs, x136_r24 hs, x136_i25 hs, x136_w25 hs, x136_i26 hs, x136_w26 hs, x136_r27 hs, x136_r28 hs, x136_i29 hs, x136_w29 hs, Option.bind_some, xI, xU, xUt, xIt, J_lit, J_add, J_sub, J_mul, J_neg, J_ltc, J_lec, J_eqc, lt_T, lt_F, le_T, le_F, eq_T, eq_F, ↓reduceIte, ite_not, not_true_eq_false, not_false_eq_true, true_or, or_true, false_or, or_false, true_and, and_true, false_and, and_false, up_get, Nat.reduceEqDiff, Int.reduceNeg, eqN_T, eqN_F]
      refine De.call DH ?_
      simp (disch := omega) only [Option.bind_some, xI, xU, xUt, xIt, J_lit, J_add, J_sub, J_mul, J_neg, J_ltc, J_lec, J_eqc, lt_T, lt_F, le_T, le_F, eq_T, eq_F, ↓reduceIte, ite_not, not_true_eq_false, not_false_eq_true, true_or, or_true, false_or, or_false, true_and, and_true, false_and, and_false, up_get, Nat.reduceEqDiff, Int.reduceNeg, eqN_T, eqN_F]
      exact Q
theorem q_goes47 (hs : Sk S) (W : Wok w) (V : Vok told w v) : ∀ (k i : Nat) (m : Nat → Int → Int), (i : Int) + k = w 0 → m 139 = w → (∀ b z, b ≠ 137 → m b z = m0 b z) → m 137 = loC w v (v 0) i → ∃ m', m' 137 = loC w v (v 0) (w 0).toNat ∧ (∀ b z, b ≠ 137 → m' b z = m0 b z) ∧ ∀ {r' : xR} {P' : xH}, De (fun n => f_X11_goesOn n 108 [.ref 136, .int (J 0)] (hp S m' q)) r' P' → De (fun n => f_X11_goesOn n 47 [.ref 136, .int (J i)] (hp S m q)) r' P' := by
  have tw := W.1.2.1
  have w1 := W.2.1
  intro k
  induction k with
  | zero =>
    intro i m hi e9 F G
    refine ⟨m, by rw [G, show (w 0).toNat = i by omega], F, fun D => ?_⟩
    refine De.step ?_
    simp only [j_X11_goesOn_47]
    simp (disch := omega) only [b_X11_goesOn_47, x136_k hs, x136_i0 hs, x136_w0 hs, x136_r1 hs, x136_r2 hs, x136_r3 hs, x136_r4 hs, x136_i5 hs, x136_w5 hs, x136_i6 hs, x136_w6 hs, x136_i7 hs, x136_w7 hs, x136_r8 hs, x136_i9 hs, x136_w9 hs, x136_i10 hs, x136_w10 hs, x136_i11 hs, x136_w11 hs, x136_i12 hs, x136_w12 hs, x136_i13 hs, x136_w13 hs, x136_i14 hs, x136_w14 hs, x136_r15 hs, x136_i16 hs, x136_w16 hs, x136_r17 hs, x136_r18 hs, x136_r19 hs, x136_r20 hs, x136_r21 hs, x136_i22 hs, x136_w22 hs, x136_r23 hs, x136_r24 hs, x136_i25 hs, x136_w25 hs, x136_i26 hs, x136_w26 hs, x136_r27 hs, x136_r28 hs, x136_i29 hs, x136_w29 hs, Option.bind_some]
    refine De.call (d_phones hs) ?_
    simp (disch := omega) only [e9, Option.bind_some, xI, xU, xUt, xIt, J_lit, J_add, J_sub, J_mul, J_neg, J_ltc, J_lec, J_eqc, lt_T, lt_F, le_T, le_F, eq_T, eq_F, ↓reduceIte, ite_not, not_true_eq_false, not_false_eq_true, true_or, or_true, false_or, or_false, true_and, and_true, false_and, and_false, up_get, Nat.reduceEqDiff, Int.reduceNeg, eqN_T, eqN_F]
    exact D
  | succ k IH =>
    intro i m hi e9 F G
    have V1 : Vok told w (loC w v (v 0) i) := V.less (fun i hi => by rw [loC_at w1 i _, if_neg (by omega)]) (fun j => loC_less w1 j) tw
    have g0 : loC w v (v 0) i 0 = v 0 := by rw [loC_at w1 0 _, if_neg (by omega)]
    obtain ⟨m1, G1, F1, S1⟩ := q_goes57 (q := q) (m0 := m0) (v := loC w v (v 0) i) (p := (i : Int)) hs W V1 (by omega) (by omega) (w 1).toNat 0 m (by omega) e9 F G
    rw [g0] at G1
    obtain ⟨m', G', F', S'⟩ := IH (i + 1) m1 (by omega) (funext fun z => (F1 139 z (by decide)).trans ((F 139 z (by decide)).symm.trans (congrFun e9 z))) F1 (by rw [G1]; rfl)
    refine ⟨m', G', F', fun D => ?_⟩
    have Q := S1 (S' D)
    refine De.step ?_
    simp only [j_X11_goesOn_47]
    simp (disch := omega) only [b_X11_goesOn_47, x136_k hs, x136_i0 hs, x136_w0 hs, x136_r1 hs, x136_r2 hs, x136_r3 hs, x136_r4 hs, x136_i5 hs, x136_w5 hs, x136_i6 hs, x136_w6 hs, x136_i7 hs, x136_w7 hs, x136_r8 hs, x136_i9 hs, x136_w9 hs, x136_i10 hs, x136_w10 hs, x136_i11 hs, x136_w11 hs, x136_i12 hs, x136_w12 hs, x136_i13 hs, x136_w13 hs, x136_i14 hs, x136_w14 hs, x136_r15 hs, x136_i16 hs, x136_w16 hs, x136_r17 hs, x136_r18 hs, x136_r19 hs, x136_r20 hs, x136_r21 hs, x136_i22 hs, x136_w22 hs, x136_r23 hs, x136_r24 hs, x136_i25 hs, x136_w25 hs, x136_i26 hs, x136_w26 hs, x136_r27 hs, x136_r28 hs, x136_i29 hs, x136_w29 hs, Option.bind_some]
    refine De.call (d_phones hs) ?_
    simp (disch := omega) only [e9, Option.bind_some, xI, xU, xUt, xIt, J_lit, J_add, J_sub, J_mul, J_neg, J_ltc, J_lec, J_eqc, lt_T, lt_F, le_T, le_F, eq_T, eq_F, ↓reduceIte, ite_not, not_true_eq_false, not_false_eq_true, true_or, or_true, false_or, or_false, true_and, and_true, false_and, and_false, up_get, Nat.reduceEqDiff, Int.reduceNeg, eqN_T, eqN_F]
    exact Q
end DEAD
