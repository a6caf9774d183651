/-! a trial runs, by both -/
def v0U (w v u : Int → Int) : Int → Int := fun k => if 0 ≤ k ∧ k < 2301 then v0S w v k else u k
section RUNS
variable {S : xH} {m m' m0 : Nat → Int → Int} {q q' : Nat → Int → Int64} {a r : Nat} {told l x y to : Int} {w v v' g : Int → Int} {ln sp : Int} {kd nm bg so : Int → Int}
theorem CX.vin (C : CX S m q a r told w v g) (e : ∀ i, 0 ≤ i → i < 2301 → v' i = v i) : CX S m q a r told w v' g := by
  obtain ⟨h0, W, WC, NC, R⟩ := C
  have w1 := W.2.1
  have n1 := NC.1
  exact ⟨h0, W, WC, Rnet.congr NC W.1.2.1 (fun i _ _ => rfl) (fun o _ _ => rfl) (fun o _ _ => rfl) rfl (Int.le_refl _) (fun i _ _ => rfl) e (by omega), R⟩
theorem VX.vin (X : VX told w v g) (e : ∀ i, 0 ≤ i → i < 2301 → v' i = v i) : VX told w v' g := by
  obtain ⟨S, m, q, a, r, C⟩ := X
  exact ⟨S, m, q, a, r, C.vin e⟩
theorem LIN.uniq {told' : Int} (h : LIN told w v) (h' : LIN told' w v) (a0 : 0 ≤ told) (a1 : told ≤ w 1) (b0 : 0 ≤ told') (b1 : told' ≤ w 1) : told = told' := by
  rcases Int.lt_trichotomy told told' with c | c | c
  · have := (h told a0 (by omega)).2 ((h' told a0 (by omega)).1 c)
    omega
  · exact c
  · have := (h' told' b0 (by omega)).2 ((h told' b0 (by omega)).1 c)
    omega
theorem q_skip54 (hs : Sk S) (W : Wok (m 139)) (v4 : 0 ≤ m 137 0 ∧ m 137 0 ≤ 400) {r' : xR} {P' : xH} {j : Int} (j1 : j ≤ m 139 1) (D : De (fun n => f_X11_runs n 54 [.ref 136, .int (J to), .int (J j)] (hp S m q)) r' P') : ∀ (k : Nat) (i : Int), i + k = j → 0 ≤ i → (∀ x : Int, i ≤ x → x < j → m 139 (761 + 10 * x + 2) ≠ m 137 0) → De (fun n => f_X11_runs n 54 [.ref 136, .int (J to), .int (J i)] (hp S m q)) r' P' := by
  have w1 := W.2.1
  intro k
  induction k with
  | zero =>
    intro i hi i0 h
    rw [show i = j by omega]
    exact D
  | succ k IH =>
    intro i hi i0 h
    have Q := IH (i + 1) (by omega) (by omega) (fun x a b => h x (by omega) b)
    have wx := W.2.2 i i0 (by omega)
    have hx := h i (Int.le_refl _) (by omega)
    refine De.step ?_
    simp only [j_X11_runs_54]
    simp (disch := omega) only [b_X11_runs_54, x136_k hs, x136_i0 hs, x136_w0 hs, x136_r1 hs, x136_r2 hs, x136_r3 hs, x136_r4 hs, x136_i5 hs, x136_w5 hs, x136_i6 hs, x136_w6 hs, x136_i7 hs, x136_w7 hs, x136_r8 hs, x136_i9 hs, x136_w9 hs, x136_i10 hs, x136_w10 hs, x136_i11 hs, x136_w11 hs, x136_i12 hs, x136_w12 hs, x136_i13 hs, x136_w13 hs, x136_i14 hs, x136_w14 hs, x136_r15 hs, x136_i16 hs, x136_w16 hs, x136_r17 hs, x136_r18 hs, x136_r19 hs, x136_r20 hs, x136_r21 hs, x136_i22 hs, x136_w22 hs, x136_r23 hs, x136_r24 hs, x136_i25 hs, x136_w25 hs, x136_i26 hs, x136_w26 hs, x136_r27 hs, x136_r28 hs, x136_i29 hs, x136_w29 hs, Option.bind_some]
    refine De.call (d_words hs) ?_
    simp (disch := omega) only [x136_k hs, x136_i0 hs, x136_w0 hs, x136_r1 hs, x136_r2 hs, x136_r3 hs, x136_r4 hs, x136_i5 hs, x136_w5 hs, x136_i6 hs, x136_w6 hs, x136_i7 hs, x136_w7 hs, x136_r8 hs, x136_i9 hs, x136_w9 hs, x136_i10 hs, x136_w10 hs, x136_i11 hs, x136_w11 hs, x136_i12 hs, x136_w12 hs, x136_i13 hs, x136_w13 hs, x136_i14 hs, x136_w14 hs, x136_r15 hs, x136_i16 hs, x136_w16 hs, x136_r17 hs, x136_r18 hs, x136_r19 hs, x136_r20 hs, x136_r21 hs, x136_i22 hs, x136_w22 hs, x136_r23 hs, x136_r24 hs, x136_i25 hs, x136_w25 hs, x136_i26 hs, x136_w26 hs, x136_r27 hs, x136_r28 hs, x136_i29 hs, x136_w29 hs, Option.bind_some, xI, xU, xUt, xIt, J_lit, J_add, J_sub, J_mul, J_neg, J_ltc, J_lec, J_eqc, lt_T, lt_F, le_T, le_F, eq_T, eq_F, ↓reduceIte, ite_not, not_true_eq_false, not_false_eq_true, true_or, or_true, false_or, or_false, true_and, and_true, false_and, and_false, up_get, Nat.reduceEqDiff, Int.reduceNeg, eqN_T, eqN_F]
    refine De.call (d_of hs i0 (by omega) (by decide) (by decide)) ?_
    simp (disch := omega) only [x136_k hs, x136_i0 hs, x136_w0 hs, x136_r1 hs, x136_r2 hs, x136_r3 hs, x136_r4 hs, x136_i5 hs, x136_w5 hs, x136_i6 hs, x136_w6 hs, x136_i7 hs, x136_w7 hs, x136_r8 hs, x136_i9 hs, x136_w9 hs, x136_i10 hs, x136_w10 hs, x136_i11 hs, x136_w11 hs, x136_i12 hs, x136_w12 hs, x136_i13 hs, x136_w13 hs, x136_i14 hs, x136_w14 hs, x136_r15 hs, x136_i16 hs, x136_w16 hs, x136_r17 hs, x136_r18 hs, x136_r19 hs, x136_r20 hs, x136_r21 hs, x136_i22 hs, x136_w22 hs, x136_r23 hs, x136_r24 hs, x136_i25 hs, x136_w25 hs, x136_i26 hs, x136_w26 hs, x136_r27 hs, x136_r28 hs, x136_i29 hs, x136_w29 hs, Option.bind_some, xI, xU, xUt, xIt, J_lit, J_add, J_sub, J_mul, J_neg, J_ltc, J_lec, J_eqc, lt_T, lt_F, le_T, le_F, eq_T, eq_F, ↓reduceIte, ite_not, not_true_eq_false, not_false_eq_true, true_or, or_true, false_or, or_false, true_and, and_true, false_and, and_false, up_get, Nat.reduceEqDiff, Int.reduceNeg, eqN_T, eqN_F]
    refine De.call (d_tick hs) ?_
    simp (disch := omega) only [Option.bind_some, xI, xU, xUt, xIt, J_lit, J_add, J_sub, J_mul, J_neg, J_ltc, J_lec, J_eqc, lt_T, lt_F, le_T, le_F, eq_T, eq_F, ↓reduceIte, ite_not, not_true_eq_false, not_false_eq_true, true_or, or_true, false_or, or_false, true_and, and_true, false_and, and_false, up_get, Nat.reduceEqDiff, Int.reduceNeg, eqN_T, eqN_F]
    exact Q
theorem q_end54 (hs : Sk S) (w1 : 0 ≤ m 139 1 ∧ m 139 1 ≤ 30) {r' : xR} {P' : xH} (D : De (fun n => f_X11_runs n 40 [.ref 136, .int (J to)] (hp S m q)) r' P') : De (fun n => f_X11_runs n 54 [.ref 136, .int (J to), .int (J (m 139 1))] (hp S m q)) r' P' := by
  refine De.step ?_
  simp only [j_X11_runs_54]
  simp (disch := omega) only [b_X11_runs_54, x136_k hs, x136_i0 hs, x136_w0 hs, x136_r1 hs, x136_r2 hs, x136_r3 hs, x136_r4 hs, x136_i5 hs, x136_w5 hs, x136_i6 hs, x136_w6 hs, x136_i7 hs, x136_w7 hs, x136_r8 hs, x136_i9 hs, x136_w9 hs, x136_i10 hs, x136_w10 hs, x136_i11 hs, x136_w11 hs, x136_i12 hs, x136_w12 hs, x136_i13 hs, x136_w13 hs, x136_i14 hs, x136_w14 hs, x136_r15 hs, x136_i16 hs, x136_w16 hs, x136_r17 hs, x136_r18 hs, x136_r19 hs, x136_r20 hs, x136_r21 hs, x136_i22 hs, x136_w22 hs, x136_r23 hs, x136_r24 hs, x136_i25 hs, x136_w25 hs, x136_i26 hs, x136_w26 hs, x136_r27 hs, x136_r28 hs, x136_i29 hs, x136_w29 hs, Option.bind_some]
  refine De.call (d_words hs) ?_
  simp (disch := omega) only [Option.bind_some, xI, xU, xUt, xIt, J_lit, J_add, J_sub, J_mul, J_neg, J_ltc, J_lec, J_eqc, lt_T, lt_F, le_T, le_F, eq_T, eq_F, ↓reduceIte, ite_not, not_true_eq_false, not_false_eq_true, true_or, or_true, false_or, or_false, true_and, and_true, false_and, and_false, up_get, Nat.reduceEqDiff, Int.reduceNeg, eqN_T, eqN_F]
  exact D
theorem q_tdM (hs : Sk S) (R : Rrul ln sp kd nm bg so g) (srt : SRT w) : ∀ (k : Nat) (told : Int) (m : Nat → Int → Int), told + k = w 1 → m 139 = w → VX told w (m 137) g → RulM m y g → (∀ x : Int, told ≤ x → x < w 1 → m 137 0 ≤ w (761 + 10 * x + 2)) → ∃ m', m' 137 = (tdS w g k (told, m 137)).2 ∧ Fr4 m m' ∧ ∀ {r' : xR} {P' : xH}, De (fun n => f_X11_runs n 40 [.ref 136, .int (J to)] (hp S m' q)) r' P' → De (fun n => f_X11_runs n 54 [.ref 136, .int (J to), .int (J told)] (hp S m q)) r' P' := by
  intro k
  induction k with
  | zero =>
    intro told m hk e9 X M h
    have w1 := X.wok.2.1
    refine ⟨m, rfl, fun _ _ _ _ _ _ => rfl, fun D => ?_⟩
    have E := q_end54 (q := q) (m := m) hs (by rw [e9]; exact w1) D
    rw [e9, show w 1 = told by omega] at E
    exact E
  | succ k IH =>
    intro told m hk e9 X M h
    have W := X.wok
    have V := X.vok
    have w1 := W.2.1
    have v1 := V.1
    have wx := W.2.2 told (by omega) (by omega)
    have hx := h told (Int.le_refl _) (by omega)
    by_cases c : w (761 + 10 * told + 2) ≤ m 137 0
    · have e : tdS w g (k + 1) (told, m 137) = tdS w g k (told + 1, tlS w (m 137) g told) := if_pos c
      rw [e]
      obtain ⟨m1, D1, A1, F1⟩ := q_tellsM (q := q) (m := m) (x := told) (told := told) hs (by rw [e9]; exact W) (by rw [e9]; exact V) M R rfl (by rw [e9]; omega)
      rw [e9] at A1
      have f9 : m1 139 = w := (funext fun i => F1 139 i (by decide) (by decide) (by decide) (by decide)).trans e9
      have o0 : m1 137 0 = m 137 0 := by
        rw [A1]
        exact tlS_o W (by omega) (by omega) (by decide) (fun p p0 => by omega)
      obtain ⟨m', A', F', S'⟩ := IH (told + 1) m1 (by omega) f9 (by rw [A1]; exact X.tell (by omega)) (M.cg (F1 136 6 (by decide) (by decide) (by decide) (by decide)) (fun i => F1 139 i (by decide) (by decide) (by decide) (by decide))) (fun x a b => by
        rw [o0]
        exact h x (by omega) b)
      rw [A1] at A'
      refine ⟨m', A', fun b i h1 h2 h3 h4 => (F' b i h1 h2 h3 h4).trans (F1 b i h1 h2 h3 h4), fun D => ?_⟩
      have Q := S' D
      have DO := d_of (q := q) (m := m) (x := told) (k := 2) hs (by omega) (by omega) (by decide) (by decide)
      rw [e9] at DO
      refine De.step ?_
      simp only [j_X11_runs_54]
      simp (disch := omega) only [b_X11_runs_54, x136_k hs, x136_i0 hs, x136_w0 hs, x136_r1 hs, x136_r2 hs, x136_r3 hs, x136_r4 hs, x136_i5 hs, x136_w5 hs, x136_i6 hs, x136_w6 hs, x136_i7 hs, x136_w7 hs, x136_r8 hs, x136_i9 hs, x136_w9 hs, x136_i10 hs, x136_w10 hs, x136_i11 hs, x136_w11 hs, x136_i12 hs, x136_w12 hs, x136_i13 hs, x136_w13 hs, x136_i14 hs, x136_w14 hs, x136_r15 hs, x136_i16 hs, x136_w16 hs, x136_r17 hs, x136_r18 hs, x136_r19 hs, x136_r20 hs, x136_r21 hs, x136_i22 hs, x136_w22 hs, x136_r23 hs, x136_r24 hs, x136_i25 hs, x136_w25 hs, x136_i26 hs, x136_w26 hs, x136_r27 hs, x136_r28 hs, x136_i29 hs, x136_w29 hs, Option.bind_some]
      refine De.call (d_words hs) ?_
      simp (disch := omega) only [x136_k hs, x136_i0 hs, x136_w0 hs, x136_r1 hs, x136_r2 hs, x136_r3 hs, x136_r4 hs, x136_i5 hs, x136_w5 hs, x136_i6 hs, x136_w6 hs, x136_i7 hs, x136_w7 hs, x136_r8 hs, x136_i9 hs, x136_w9 hs, x136_i10 hs, x136_w10 hs, x136_i11 hs, x136_w11 hs, x136_i12 hs, x136_w12 hs, x136_i13 hs, x136_w13 hs, x136_i14 hs, x136_w14 hs, x136_r15 hs, x136_i16 hs, x136_w16 hs, x136_r17 hs, x136_r18 hs, x136_r19 hs, x136_r20 hs, x136_r21 hs, x136_i22 hs, x136_w22 hs, x136_r23 hs, x136_r24 hs, x136_i25 hs, x136_w25 hs, x136_i26 hs, x136_w26 hs, x136_r27 hs, x136_r28 hs, x136_i29 hs, x136_w29 hs, e9, Option.bind_some, xI, xU, xUt, xIt, J_lit, J_add, J_sub, J_mul, J_neg, J_ltc, J_lec, J_eqc, lt_T, lt_F, le_T, le_F, eq_T, eq_F, ↓reduceIte, ite_not, not_true_eq_false, not_false_eq_true, true_or, or_true, false_or, or_false, true_and, and_true, false_and, and_false, up_get, Nat.reduceEqDiff, Int.reduceNeg, eqN_T, eqN_F]
      refine De.call DO ?_
      simp (disch := omega) only [x136_k hs, x136_i0 hs, x136_w0 hs, x136_r1 hs, x136_r2 hs, x136_r3 hs, x136_r4 hs, x136_i5 hs, x136_w5 hs, x136_i6 hs, x136_w6 hs, x136_i7 hs, x136_w7 hs, x136_r8 hs, x136_i9 hs, x136_w9 hs, x136_i10 hs, x136_w10 hs, x136_i11 hs, x136_w11 hs, x136_i12 hs, x136_w12 hs, x136_i13 hs, x136_w13 hs, x136_i14 hs, x136_w14 hs, x136_r15 hs, x136_i16 hs, x136_w16 hs, x136_r17 hs, x136_r18 hs, x136_r19 hs, x136_r20 hs, x136_r21 hs, x136_i22 hs, x136_w22 hs, x136_r23 hs, x136_r24 hs, x136_i25 hs, x136_w25 hs, x136_i26 hs, x136_w26 hs, x136_r27 hs, x136_r28 hs, x136_i29 hs, x136_w29 hs, Option.bind_some, xI, xU, xUt, xIt, J_lit, J_add, J_sub, J_mul, J_neg, J_ltc, J_lec, J_eqc, lt_T, lt_F, le_T, le_F, eq_T, eq_F, ↓reduceIte, ite_not, not_true_eq_false, not_false_eq_true, true_or, or_true, false_or, or_false, true_and, and_true, false_and, and_false, up_get, Nat.reduceEqDiff, Int.reduceNeg, eqN_T, eqN_F]
      refine De.call (d_tick hs) ?_
      simp (disch := omega) only [x136_k hs, x136_i0 hs, x136_w0 hs, x136_r1 hs, x136_r2 hs, x136_r3 hs, x136_r4 hs, x136_i5 hs, x136_w5 hs, x136_i6 hs, x136_w6 hs, x136_i7 hs, x136_w7 hs, x136_r8 hs, x136_i9 hs, x136_w9 hs, x136_i10 hs, x136_w10 hs, x136_i11 hs, x136_w11 hs, x136_i12 hs, x136_w12 hs, x136_i13 hs, x136_w13 hs, x136_i14 hs, x136_w14 hs, x136_r15 hs, x136_i16 hs, x136_w16 hs, x136_r17 hs, x136_r18 hs, x136_r19 hs, x136_r20 hs, x136_r21 hs, x136_i22 hs, x136_w22 hs, x136_r23 hs, x136_r24 hs, x136_i25 hs, x136_w25 hs, x136_i26 hs, x136_w26 hs, x136_r27 hs, x136_r28 hs, x136_i29 hs, x136_w29 hs, Option.bind_some, xI, xU, xUt, xIt, J_lit, J_add, J_sub, J_mul, J_neg, J_ltc, J_lec, J_eqc, lt_T, lt_F, le_T, le_F, eq_T, eq_F, ↓reduceIte, ite_not, not_true_eq_false, not_false_eq_true, true_or, or_true, false_or, or_false, true_and, and_true, false_and, and_false, up_get, Nat.reduceEqDiff, Int.reduceNeg, eqN_T, eqN_F]
      refine De.call D1 ?_
      simp (disch := omega) only [Option.bind_some, xI, xU, xUt, xIt, J_lit, J_add, J_sub, J_mul, J_neg, J_ltc, J_lec, J_eqc, lt_T, lt_F, le_T, le_F, eq_T, eq_F, ↓reduceIte, ite_not, not_true_eq_false, not_false_eq_true, true_or, or_true, false_or, or_false, true_and, and_true, false_and, and_false, up_get, Nat.reduceEqDiff, Int.reduceNeg, eqN_T, eqN_F]
      exact Q
    · have e : tdS w g (k + 1) (told, m 137) = (told, m 137) := if_neg c
      rw [e]
      refine ⟨m, rfl, fun _ _ _ _ _ _ => rfl, fun D => ?_⟩
      have E := q_end54 (q := q) (m := m) hs (by rw [e9]; exact w1) D
      exact q_skip54 (q := q) (m := m) hs (by rw [e9]; exact W) ⟨v1.1, v1.2.1⟩ (Int.le_refl _) E (k + 1) told (by rw [e9]; omega) (by omega) (fun x a b => by
        rw [e9] at b ⊢
        have := srt told x (by omega) a b
        omega)
theorem q_runs40 (hs : Sk S) (R : Rrul ln sp kd nm bg so g) (srt : SRT w) (K : Kok w l) (l0 : 0 ≤ l) (l1 : l < 4) (to1 : to ≤ 400) : ∀ (k : Nat) (told : Int) (m : Nat → Int → Int), m 137 0 + k = to → m 139 = w → VX told w (m 137) g → LIN told w (m 137) → RulM m y g → m 136 7 = l → ∃ m', De (fun n => f_X11_runs n 40 [.ref 136, .int (J to)] (hp S m q)) (.inl none) (hp S m' q) ∧ m' 137 = (rnS w g l k (told, m 137)).2 ∧ Fr5 m m' ∧ VX (rnS w g l k (told, m 137)).1 w (rnS w g l k (told, m 137)).2 g ∧ LIN (rnS w g l k (told, m 137)).1 w (rnS w g l k (told, m 137)).2 ∧ (rnS w g l k (told, m 137)).2 0 = to := by
  intro k
  induction k with
  | zero =>
    intro told m hk e9 X L M hl
    have v1 := X.vok.1
    refine ⟨m, ?_, rfl, fun _ _ _ _ _ _ _ => rfl, X, L, show m 137 0 = to by omega⟩
    refine De.step ?_
    simp only [j_X11_runs_40]
    simp (disch := omega) only [b_X11_runs_40, x136_k hs, x136_i0 hs, x136_w0 hs, x136_r1 hs, x136_r2 hs, x136_r3 hs, x136_r4 hs, x136_i5 hs, x136_w5 hs, x136_i6 hs, x136_w6 hs, x136_i7 hs, x136_w7 hs, x136_r8 hs, x136_i9 hs, x136_w9 hs, x136_i10 hs, x136_w10 hs, x136_i11 hs, x136_w11 hs, x136_i12 hs, x136_w12 hs, x136_i13 hs, x136_w13 hs, x136_i14 hs, x136_w14 hs, x136_r15 hs, x136_i16 hs, x136_w16 hs, x136_r17 hs, x136_r18 hs, x136_r19 hs, x136_r20 hs, x136_r21 hs, x136_i22 hs, x136_w22 hs, x136_r23 hs, x136_r24 hs, x136_i25 hs, x136_w25 hs, x136_i26 hs, x136_w26 hs, x136_r27 hs, x136_r28 hs, x136_i29 hs, x136_w29 hs, Option.bind_some]
    refine De.call (d_tick hs) ?_
    simp (disch := omega) only [Option.bind_some, xI, xU, xUt, xIt, J_lit, J_add, J_sub, J_mul, J_neg, J_ltc, J_lec, J_eqc, lt_T, lt_F, le_T, le_F, eq_T, eq_F, ↓reduceIte, ite_not, not_true_eq_false, not_false_eq_true, true_or, or_true, false_or, or_false, true_and, and_true, false_and, and_false, up_get, Nat.reduceEqDiff, Int.reduceNeg, eqN_T, eqN_F]
    exact De.ret _ _
  | succ k IH =>
    intro told m hk e9 X L M hl
    have v1 := X.vok.1
    have W := X.wok
    have w1 := W.2.1
    obtain ⟨m1, D1, A1, F1⟩ := q_goesM (q := q) (m := m) (l := l) (told := told) (g := g) hs R (by rw [e9]; exact X) M (by rw [e9]; exact K) hl l0 l1 (by omega)
    rw [e9] at A1
    obtain ⟨X1, e0, -⟩ := VX.step R X K (by omega)
    obtain ⟨X2, L2, -, s2, -⟩ := nsS_ok R srt K X L (by omega)
    have f9 : m1 139 = w := (F1.row (by decide) (by decide) (by decide) (by decide) (by decide)).trans e9
    have M1 := M.cg (m' := m1) (F1 136 6 (by decide) (by decide) (by decide) (by decide) (by decide)) (fun i => F1 139 i (by decide) (by decide) (by decide) (by decide) (by decide))
    obtain ⟨m2, A2, F2, S2⟩ := q_tdM (q := q) (to := to) hs R srt (w 1 - told).toNat told m1 (by omega) f9 (by rw [A1]; exact X1) M1 (fun x a b => by
      rw [A1, e0]
      have := L x (by omega) b
      omega)
    rw [A1] at A2
    have A2' : m2 137 = (nsS w g l (told, m 137)).2 := A2
    have f2 : Fr5 m1 m2 := fun b i h1 h2 h3 h4 _ => F2 b i h1 h2 h3 h4
    obtain ⟨m', D', A', F', X', L', s'⟩ := IH (nsS w g l (told, m 137)).1 m2 (by rw [A2', s2]; omega) ((f2.row (by decide) (by decide) (by decide) (by decide) (by decide)).trans f9) (by rw [A2']; exact X2) (by rw [A2']; exact L2) (M1.cg (f2 136 6 (by decide) (by decide) (by decide) (by decide) (by decide)) (fun i => f2 139 i (by decide) (by decide) (by decide) (by decide) (by decide))) ((f2 136 7 (by decide) (by decide) (by decide) (by decide) (by decide)).trans ((F1 136 7 (by decide) (by decide) (by decide) (by decide) (by decide)).trans hl))
    rw [A2'] at A' X' L' s'
    refine ⟨m', ?_, A', F1.tr (f2.tr F'), X', L', s'⟩
    have Q := q_skip54 (q := q) (m := m1) (to := to) hs (by rw [f9]; exact W) (by rw [A1, e0]; omega) (by rw [f9]; omega) (S2 D') told.toNat 0 (by omega) (Int.le_refl _) (fun x a b => by
      rw [f9, A1, e0]
      have := (L x a (by omega)).1 b
      omega)
    refine De.step ?_
    simp only [j_X11_runs_40]
    simp (disch := omega) only [b_X11_runs_40, x136_k hs, x136_i0 hs, x136_w0 hs, x136_r1 hs, x136_r2 hs, x136_r3 hs, x136_r4 hs, x136_i5 hs, x136_w5 hs, x136_i6 hs, x136_w6 hs, x136_i7 hs, x136_w7 hs, x136_r8 hs, x136_i9 hs, x136_w9 hs, x136_i10 hs, x136_w10 hs, x136_i11 hs, x136_w11 hs, x136_i12 hs, x136_w12 hs, x136_i13 hs, x136_w13 hs, x136_i14 hs, x136_w14 hs, x136_r15 hs, x136_i16 hs, x136_w16 hs, x136_r17 hs, x136_r18 hs, x136_r19 hs, x136_r20 hs, x136_r21 hs, x136_i22 hs, x136_w22 hs, x136_r23 hs, x136_r24 hs, x136_i25 hs, x136_w25 hs, x136_i26 hs, x136_w26 hs, x136_r27 hs, x136_r28 hs, x136_i29 hs, x136_w29 hs, Option.bind_some]
    refine De.call (d_tick hs) ?_
    simp (disch := omega) only [x136_k hs, x136_i0 hs, x136_w0 hs, x136_r1 hs, x136_r2 hs, x136_r3 hs, x136_r4 hs, x136_i5 hs, x136_w5 hs, x136_i6 hs, x136_w6 hs, x136_i7 hs, x136_w7 hs, x136_r8 hs, x136_i9 hs, x136_w9 hs, x136_i10 hs, x136_w10 hs, x136_i11 hs, x136_w11 hs, x136_i12 hs, x136_w12 hs, x136_i13 hs, x136_w13 hs, x136_i14 hs, x136_w14 hs, x136_r15 hs, x136_i16 hs, x136_w16 hs, x136_r17 hs, x136_r18 hs, x136_r19 hs, x136_r20 hs, x136_r21 hs, x136_i22 hs, x136_w22 hs, x136_r23 hs, x136_r24 hs, x136_i25 hs, x136_w25 hs, x136_i26 hs, x136_w26 hs, x136_r27 hs, x136_r28 hs, x136_i29 hs, x136_w29 hs, Option.bind_some, xI, xU, xUt, xIt, J_lit, J_add, J_sub, J_mul, J_neg, J_ltc, J_lec, J_eqc, lt_T, lt_F, le_T, le_F, eq_T, eq_F, ↓reduceIte, ite_not, not_true_eq_false, not_false_eq_true, true_or, or_true, false_or, or_false, true_and, and_true, false_and, and_false, up_get, Nat.reduceEqDiff, Int.reduceNeg, eqN_T, eqN_F]
    refine De.call D1 ?_
    simp (disch := omega) only [Option.bind_some, xI, xU, xUt, xIt, J_lit, J_add, J_sub, J_mul, J_neg, J_ltc, J_lec, J_eqc, lt_T, lt_F, le_T, le_F, eq_T, eq_F, ↓reduceIte, ite_not, not_true_eq_false, not_false_eq_true, true_or, or_true, false_or, or_false, true_and, and_true, false_and, and_false, up_get, Nat.reduceEqDiff, Int.reduceNeg, eqN_T, eqN_F]
    exact Q
/-- the start is laid again -/
theorem q_runs11 (hs : Sk S) : ∀ (k i : Nat) (m : Nat → Int → Int), i + k = 2301 → (∀ b j, b ≠ 137 → m b j = m0 b j) → (∀ j, m 137 j = if 0 ≤ j ∧ j < i then m0 139 (1938 + j) else m0 137 j) → ∃ m', (∀ b j, b ≠ 137 → m' b j = m0 b j) ∧ (∀ j, m' 137 j = if 0 ≤ j ∧ j < 2301 then m0 139 (1938 + j) else m0 137 j) ∧ ∀ {r' : xR} {P' : xH}, De (fun n => f_X11_runs n 40 [.ref 136, .int (J to)] (hp S m' q)) r' P' → De (fun n => f_X11_runs n 11 [.ref 136, .int (J to), .int (J i)] (hp S m q)) r' P' := by
  intro k
  induction k with
  | zero =>
    intro i m hi F G
    refine ⟨m, F, fun j => by rw [G j, show (i : Int) = 2301 by omega], fun D => ?_⟩
    refine De.step ?_
    simp only [j_X11_runs_11]
    simp (disch := omega) only [b_X11_runs_11, Option.bind_some, xI, xU, xUt, xIt, J_lit, J_add, J_sub, J_mul, J_neg, J_ltc, J_lec, J_eqc, lt_T, lt_F, le_T, le_F, eq_T, eq_F, ↓reduceIte, ite_not, not_true_eq_false, not_false_eq_true, true_or, or_true, false_or, or_false, true_and, and_true, false_and, and_false, up_get, Nat.reduceEqDiff, Int.reduceNeg, eqN_T, eqN_F]
    exact D
  | succ k IH =>
    intro i m hi F G
    obtain ⟨m', F', G', S'⟩ := IH (i + 1) (up m 137 i (m 139 (1938 + i))) (by omega) (fun b j h => (up_a h).trans (F b j h)) (fun j => by
      by_cases c : j = i
      · rw [c, up_at, if_pos (by omega), F 139 _ (by decide)]
      · rw [up_i c, G j]
        by_cases d : 0 ≤ j ∧ j < i
        · rw [if_pos d, if_pos (by omega)]
        · rw [if_neg d, if_neg (by omega)])
    refine ⟨m', F', G', fun D => ?_⟩
    have Q := S' D
    refine De.step ?_
    simp only [j_X11_runs_11]
    simp (disch := omega) only [b_X11_runs_11, x136_k hs, x136_i0 hs, x136_w0 hs, x136_r1 hs, x136_r2 hs, x136_r3 hs, x136_r4 hs, x136_i5 hs, x136_w5 hs, x136_i6 hs, x136_w6 hs, x136_i7 hs, x136_w7 hs, x136_r8 hs, x136_i9 hs, x136_w9 hs, x136_i10 hs, x136_w10 hs, x136_i11 hs, x136_w11 hs, x136_i12 hs, x136_w12 hs, x136_i13 hs, x136_w13 hs, x136_i14 hs, x136_w14 hs, x136_r15 hs, x136_i16 hs, x136_w16 hs, x136_r17 hs, x136_r18 hs, x136_r19 hs, x136_r20 hs, x136_r21 hs, x136_i22 hs, x136_w22 hs, x136_r23 hs, x136_r24 hs, x136_i25 hs, x136_w25 hs, x136_i26 hs, x136_w26 hs, x136_r27 hs, x136_r28 hs, x136_i29 hs, x136_w29 hs, x137_g hs, x137_s hs, x137_l hs, x139_g hs, x139_s hs, x139_l hs, Option.bind_some, xI, xU, xUt, xIt, J_lit, J_add, J_sub, J_mul, J_neg, J_ltc, J_lec, J_eqc, lt_T, lt_F, le_T, le_F, eq_T, eq_F, ↓reduceIte, ite_not, not_true_eq_false, not_false_eq_true, true_or, or_true, false_or, or_false, true_and, and_true, false_and, and_false, up_get, Nat.reduceEqDiff, Int.reduceNeg, eqN_T, eqN_F]
    exact Q
theorem q_runs0 (hs : Sk S) (h8 : m 138 0 = v 0) (v0 : 0 ≤ v 0) (v4 : v 0 ≤ 400) (hu : v 0 = 0 → ∀ i, 0 ≤ i → i < 2301 → m 137 i = v i) : ∃ m', (∀ b j, b ≠ 137 → m' b j = m b j) ∧ m' 137 = v0U (m 139) v (m 137) ∧ ∀ {r' : xR} {P' : xH}, De (fun n => f_X11_runs n 40 [.ref 136, .int (J to)] (hp S m' q)) r' P' → De (fun n => f_X11_runs n 0 [.ref 136, .int (J to)] (hp S m q)) r' P' := by
  by_cases c : v 0 = 0
  · refine ⟨m, fun _ _ _ => rfl, funext fun j => ?_, fun D => ?_⟩
    · unfold v0U v0S
      rw [if_pos c]
      split
      · rename_i h
        exact hu c j h.1 h.2
      · rfl
    · refine De.step ?_
      simp only [j_X11_runs_0]
      simp (disch := omega) only [b_X11_runs_0, x136_k hs, x136_i0 hs, x136_w0 hs, x136_r1 hs, x136_r2 hs, x136_r3 hs, x136_r4 hs, x136_i5 hs, x136_w5 hs, x136_i6 hs, x136_w6 hs, x136_i7 hs, x136_w7 hs, x136_r8 hs, x136_i9 hs, x136_w9 hs, x136_i10 hs, x136_w10 hs, x136_i11 hs, x136_w11 hs, x136_i12 hs, x136_w12 hs, x136_i13 hs, x136_w13 hs, x136_i14 hs, x136_w14 hs, x136_r15 hs, x136_i16 hs, x136_w16 hs, x136_r17 hs, x136_r18 hs, x136_r19 hs, x136_r20 hs, x136_r21 hs, x136_i22 hs, x136_w22 hs, x136_r23 hs, x136_r24 hs, x136_i25 hs, x136_w25 hs, x136_i26 hs, x136_w26 hs, x136_r27 hs, x136_r28 hs, x136_i29 hs, x136_w29 hs, x138_g hs, x138_s hs, x138_l hs, h8, Option.bind_some, xI, xU, xUt, xIt, J_lit, J_add, J_sub, J_mul, J_neg, J_ltc, J_lec, J_eqc, lt_T, lt_F, le_T, le_F, eq_T, eq_F, ↓reduceIte, ite_not, not_true_eq_false, not_false_eq_true, true_or, or_true, false_or, or_false, true_and, and_true, false_and, and_false, up_get, Nat.reduceEqDiff, Int.reduceNeg, eqN_T, eqN_F]
      exact D
  · obtain ⟨m', F', G', S'⟩ := q_runs11 (q := q) (to := to) (m0 := m) hs 2301 0 m (by omega) (fun _ _ _ => rfl) (fun j => (if_neg (by omega)).symm)
    refine ⟨m', F', funext fun j => ?_, fun D => ?_⟩
    · rw [G' j]
      unfold v0U v0S
      rw [if_neg c]
    · have Q := S' D
      refine De.step ?_
      simp only [j_X11_runs_0]
      simp (disch := omega) only [b_X11_runs_0, x136_k hs, x136_i0 hs, x136_w0 hs, x136_r1 hs, x136_r2 hs, x136_r3 hs, x136_r4 hs, x136_i5 hs, x136_w5 hs, x136_i6 hs, x136_w6 hs, x136_i7 hs, x136_w7 hs, x136_r8 hs, x136_i9 hs, x136_w9 hs, x136_i10 hs, x136_w10 hs, x136_i11 hs, x136_w11 hs, x136_i12 hs, x136_w12 hs, x136_i13 hs, x136_w13 hs, x136_i14 hs, x136_w14 hs, x136_r15 hs, x136_i16 hs, x136_w16 hs, x136_r17 hs, x136_r18 hs, x136_r19 hs, x136_r20 hs, x136_r21 hs, x136_i22 hs, x136_w22 hs, x136_r23 hs, x136_r24 hs, x136_i25 hs, x136_w25 hs, x136_i26 hs, x136_w26 hs, x136_r27 hs, x136_r28 hs, x136_i29 hs, x136_w29 hs, x138_g hs, x138_s hs, x138_l hs, h8, Option.bind_some, xI, xU, xUt, xIt, J_lit, J_add, J_sub, J_mul, J_neg, J_ltc, J_lec, J_eqc, lt_T, lt_F, le_T, le_F, eq_T, eq_F, ↓reduceIte, ite_not, not_true_eq_false, not_false_eq_true, true_or, or_true, false_or, or_false, true_and, and_true, false_and, and_false, up_get, Nat.reduceEqDiff, Int.reduceNeg, eqN_T, eqN_F]
      exact Q
theorem q_copyM (hs : Sk S) {c d : Nat} (h1 : c = 137 ∧ d = 138 ∨ c = 138 ∧ d = 137) : ∀ (k i : Nat) (m : Nat → Int → Int), i + k = 2301 → (∀ b j, b ≠ d → m b j = m0 b j) → (∀ j, m d j = if 0 ≤ j ∧ j < i then m0 c j else m0 d j) → ∃ m', De (fun n => f_X11_copy_ n 2 [.ref 136, .ref c, .ref d, .int (J i)] (hp S m q)) (.inl none) (hp S m' q) ∧ (∀ b j, b ≠ d → m' b j = m0 b j) ∧ ∀ j, m' d j = if 0 ≤ j ∧ j < 2301 then m0 c j else m0 d j := by
  intro k
  induction k with
  | zero =>
    intro i m hi F G
    refine ⟨m, ?_, F, fun j => by rw [G j, show (i : Int) = 2301 by omega]⟩
    refine De.step ?_
    simp only [j_X11_copy__2]
    simp (disch := omega) only [b_X11_copy__2, Option.bind_some, xI, xU, xUt, xIt, J_lit, J_add, J_sub, J_mul, J_neg, J_ltc, J_lec, J_eqc, lt_T, lt_F, le_T, le_F, eq_T, eq_F, ↓reduceIte, ite_not, not_true_eq_false, not_false_eq_true, true_or, or_true, false_or, or_false, true_and, and_true, false_and, and_false, up_get, Nat.reduceEqDiff, Int.reduceNeg, eqN_T, eqN_F]
    exact De.ret _ _
  | succ k IH =>
    intro i m hi F G
    have ne : c ≠ d := by omega
    obtain ⟨m', D', F', G'⟩ := IH (i + 1) (up m d i (m c i)) (by omega) (fun b j h => (up_a h).trans (F b j h)) (fun j => by
      by_cases e : j = i
      · rw [e, up_at, if_pos (by omega), F c _ ne]
      · rw [up_i e, G j]
        by_cases f : 0 ≤ j ∧ j < i
        · rw [if_pos f, if_pos (by omega)]
        · rw [if_neg f, if_neg (by omega)])
    refine ⟨m', ?_, F', G'⟩
    rcases h1 with ⟨e1, e2⟩ | ⟨e1, e2⟩
    · subst e1
      subst e2
      refine De.step ?_
      simp only [j_X11_copy__2]
      simp (disch := omega) only [b_X11_copy__2, x137_g hs, x137_s hs, x137_l hs, x138_g hs, x138_s hs, x138_l hs, Option.bind_some, xI, xU, xUt, xIt, J_lit, J_add, J_sub, J_mul, J_neg, J_ltc, J_lec, J_eqc, lt_T, lt_F, le_T, le_F, eq_T, eq_F, ↓reduceIte, ite_not, not_true_eq_false, not_false_eq_true, true_or, or_true, false_or, or_false, true_and, and_true, false_and, and_false, up_get, Nat.reduceEqDiff, Int.reduceNeg, eqN_T, eqN_F]
      exact D'
    · subst e1
      subst e2
      refine De.step ?_
      simp only [j_X11_copy__2]
      simp (disch := omega) only [b_X11_copy__2, x137_g hs, x137_s hs, x137_l hs, x138_g hs, x138_s hs, x138_l hs, Option.bind_some, xI, xU, xUt, xIt, J_lit, J_add, J_sub, J_mul, J_neg, J_ltc, J_lec, J_eqc, lt_T, lt_F, le_T, le_F, eq_T, eq_F, ↓reduceIte, ite_not, not_true_eq_false, not_false_eq_true, true_or, or_true, false_or, or_false, true_and, and_true, false_and, and_false, up_get, Nat.reduceEqDiff, Int.reduceNeg, eqN_T, eqN_F]
      exact D'
theorem d_copyM (hs : Sk S) {c d : Nat} (h1 : c = 137 ∧ d = 138 ∨ c = 138 ∧ d = 137) : ∃ m', De (fun n => f_X11_copy_ n 0 [.ref 136, .ref c, .ref d] (hp S m q)) (.inl none) (hp S m' q) ∧ (∀ b j, b ≠ d → m' b j = m b j) ∧ ∀ j, m' d j = if 0 ≤ j ∧ j < 2301 then m c j else m d j := by
  obtain ⟨m', D, F, G⟩ := q_copyM (q := q) (m0 := m) hs h1 2301 0 m (by omega) (fun _ _ _ => rfl) (fun j => (if_neg (by omega)).symm)
  refine ⟨m', ?_, F, G⟩
  refine De.step ?_
  simp only [j_X11_copy__0]
  simp (disch := omega) only [b_X11_copy__0, Option.bind_some, xI, xU, xUt, xIt, J_lit, J_add, J_sub, J_mul, J_neg, J_ltc, J_lec, J_eqc, lt_T, lt_F, le_T, le_F, eq_T, eq_F, ↓reduceIte, ite_not, not_true_eq_false, not_false_eq_true, true_or, or_true, false_or, or_false, true_and, and_true, false_and, and_false, up_get, Nat.reduceEqDiff, Int.reduceNeg, eqN_T, eqN_F]
  exact D
end RUNS
