/-! the meeting of two, by the reference -/
/-- some net of the class stands beside these numbers -/
def VX (told : Int) (w v g : Int → Int) : Prop := ∃ (S : xH) (m : Nat → Int → Int) (q : Nat → Int → Int64) (a r : Nat), CX S m q a r told w v g
section VXS
variable {told gi ta x pa pb : Int} {w v v' g : Int → Int} {da db d : Nat}
theorem VX.wok (X : VX told w v g) : Wok w := by
  obtain ⟨S, m, q, a, r, C⟩ := X
  exact C.2.1
theorem VX.vok (X : VX told w v g) : Vok told w v := by
  obtain ⟨S, m, q, a, r, C⟩ := X
  exact C.2.2.2.1.vok
theorem VX.had (X : VX told w v g) (x0 : 0 ≤ x) (x1 : x < told) : -1 ≤ v (2151 + 5 * x + 0) ∧ v (2151 + 5 * x + 0) ≤ 400 := by
  obtain ⟨S, m, q, a, r, C⟩ := X
  have n1 := C.2.2.2.1.1
  have n6 := C.2.2.2.1.2.2.2.2.2 x x0 x1
  have e : m (a + 18) x = v (2151 + 5 * x + 0) := n6.1
  have e1 : -1 ≤ m (a + 18) x := n6.2.1
  have e2 : m (a + 18) x ≤ v 0 := n6.2.2.1
  omega
theorem VX.pth (X : VX told w v g) {p : Int} (p0 : 0 ≤ p) (p1 : p < 10) (x0 : 0 ≤ x) (x1 : x < 30) (h : v (51 + 7 * (30 * p + x) + 0) = 1) : ∃ L, Rpth L (v (51 + 7 * (30 * p + x) + 5)) (v (51 + 7 * (30 * p + x) + 6)) (v (51 + 7 * (30 * p + x) + 2)) (w 0) := by
  obtain ⟨S, m, q, a, r, C⟩ := X
  have n4 := (C.2.2.2.1.2.2.2.1 p x p0 p1 x0 x1).2 h
  have e : m (a + 12) (30 * p + x) = v (51 + 7 * (30 * p + x) + 2) := n4.2.1.2.1
  have P := n4.2.2.2
  refine ⟨q (a + 15) (30 * p + x), ?_⟩
  rw [← e]
  exact P
theorem VX.hand (X : VX told w v g) (g0 : 0 ≤ gi) (g1 : gi < w 0) (t0 : 0 ≤ ta) (t1 : ta < w 0) (x0 : 0 ≤ x) (x1 : x < told) (hg : v (51 + 7 * (30 * gi + x) + 0) = 1) (ht : v (51 + 7 * (30 * ta + x) + 0) = 0) (h12 : v (51 + 7 * (30 * gi + x) + 2) < 12) (ct : 0 < v (1 + 5 * ta + 1)) : VX told w (haS w v g gi ta x) g := by
  obtain ⟨S, m, q, a, r, C⟩ := X
  obtain ⟨m', q', -, C', -⟩ := q_handC (d := 0) (C.drop (m' := up m (a + 21) ta 0) (fun b i h => up_a h)) g0 g1 t0 t1 x0 x1 hg ht h12 ct (up_at _ _ _ _)
  exact ⟨S, m', q', a, r, C'⟩
/-- the charges go down -/
theorem haS_c {ln sp : Int} {kd nm bg so : Int → Int} (W : Wok w) (R : Rrul ln sp kd nm bg so g) (g0 : 0 ≤ gi) (g1 : gi < w 0) (t0 : 0 ≤ ta) (t1 : ta < w 0) (ne : gi ≠ ta) (x0 : 0 ≤ x) (x1 : x < w 1) (c0 : 0 ≤ v (1 + 5 * gi + 1)) : haS w v g gi ta x (1 + 5 * gi + 1) + haS w v g gi ta x (1 + 5 * ta + 1) + 1 ≤ v (1 + 5 * gi + 1) + v (1 + 5 * ta + 1) := by
  have tw := W.1.2.1
  have co := coS_in R (g 0).toNat (by have := R.2.1; omega)
  have eB : ∀ i : Int, i < 51 → i ≠ 1 + 5 * ta + 4 → haB w (haA w v g ta) gi ta x i = v i := fun i h1 h2 => by
    unfold haB
    rw [cmS_o h1 t0 x0, unS_o (Or.inl h1) W t0 (by omega) x0 x1, haA_o W t0 t1 h2 (fun y y0 => by omega)]
  unfold haS haC
  rw [ups_ne (show 1 + 5 * gi + 1 ≠ 1 + 5 * ta + 3 by omega), ups_ne (show 1 + 5 * gi + 1 ≠ 1 + 5 * gi + 2 by omega), ups_ne (show 1 + 5 * gi + 1 ≠ 1 + 5 * ta + 1 by omega), ups_at, ups_ne (show 1 + 5 * ta + 1 ≠ 1 + 5 * ta + 3 by omega), ups_ne (show 1 + 5 * ta + 1 ≠ 1 + 5 * gi + 2 by omega), ups_at, eB _ (by omega) (by omega), eB _ (by omega) (by omega)]
  omega
/-- what a handing leaves as it was -/
theorem haS_o {i : Int} (W : Wok w) (g0 : 0 ≤ gi) (g1 : gi < w 0) (t0 : 0 ≤ ta) (t1 : ta < w 0) (x0 : 0 ≤ x) (x1 : x < w 1) (h : i < 51) (h1 : ∀ p k : Int, 0 ≤ p → 1 ≤ k → k ≤ 4 → i ≠ 1 + 5 * p + k) : haS w v g gi ta x i = v i := by
  have tw := W.1.2.1
  have e1 := h1 gi 1 g0 (by decide) (by decide)
  have e2 := h1 gi 2 g0 (by decide) (by decide)
  have e3 := h1 ta 1 t0 (by decide) (by decide)
  have e4 := h1 ta 3 t0 (by decide) (by decide)
  have e5 := h1 ta 4 t0 (by decide) (by decide)
  unfold haS haC
  rw [ups_ne e4, ups_ne e2, ups_ne e3, ups_ne e1]
  unfold haB
  rw [cmS_o h t0 x0, unS_o (Or.inl h) W t0 (by omega) x0 x1, haA_o W t0 t1 e5 (fun y y0 => by omega)]
/-- one handing more -/
theorem VX.pick (X : VX told w v g) {ln sp : Int} {kd nm bg so : Int → Int} (R : Rrul ln sp kd nm bg so g) (a0 : 0 ≤ pa) (a1 : pa < w 0) (b0 : 0 ≤ pb) (b1 : pb < w 0) (c1 : 0 < v (1 + 5 * pa + 1)) (c2 : 0 < v (1 + 5 * pb + 1)) (h : 0 ≤ (rfS w v g pa pb da db 30).1) : ∃ y : Int, (0 ≤ y ∧ y < told) ∧ (rfS w v g pa pb da db 30).1 = y ∧ ((v (51 + 7 * (30 * pa + y) + 0) = 1 ∧ v (51 + 7 * (30 * pb + y) + 0) = 0 ∧ v (51 + 7 * (30 * pa + y) + 2) < 12 ∧ nxS w v g pa pb da db y = (haS w v g pa pb y, da, drS w v g pb db)) ∨ (v (51 + 7 * (30 * pa + y) + 0) = 0 ∧ v (51 + 7 * (30 * pb + y) + 0) = 1 ∧ v (51 + 7 * (30 * pb + y) + 2) < 12 ∧ nxS w v g pa pb da db y = (haS w v g pb pa y, drS w v g pa da, db))) ∧ VX told w (nxS w v g pa pb da db y).1 g ∧ (nxS w v g pa pb da db y).1 (1 + 5 * pa + 1) + (nxS w v g pa pb da db y).1 (1 + 5 * pb + 1) + 1 ≤ v (1 + 5 * pa + 1) + v (1 + 5 * pb + 1) ∧ ∀ i : Int, i < 51 → (∀ p k : Int, 0 ≤ p → 1 ≤ k → k ≤ 4 → i ≠ 1 + 5 * p + k) → (nxS w v g pa pb da db y).1 i = v i := by
  have W := X.wok
  have V := X.vok
  have tw := W.1.2.1
  obtain ⟨y, y1, y2, y3⟩ := rfS_pick h
  rcases y3 with ⟨e, ct⟩ | ⟨e, ct⟩
  · obtain ⟨h1, h2, h3⟩ := ctS_1 ct
    have x2 := ((V.2.2 pa y a0 (by omega) (by omega) (by omega)).2 h1).1.2
    have en : nxS w v g pa pb da db y = (haS w v g pa pb y, da, drS w v g pb db) := if_pos h1
    have ne : pa ≠ pb := fun z => by
      rw [z] at h1
      omega
    have v1 := V.1
    refine ⟨y, ⟨by omega, x2⟩, y2, Or.inl ⟨h1, h2, lts_12 h3, en⟩, ?_, ?_, fun i i0 i1 => ?_⟩
    · rw [en]
      exact X.hand a0 a1 b0 b1 (by omega) x2 h1 h2 (lts_12 h3) c2
    · rw [en]
      exact haS_c W R a0 a1 b0 b1 ne (by omega) (by omega) (by omega)
    · rw [en]
      exact haS_o W a0 a1 b0 b1 (by omega) (by omega) i0 i1
  · obtain ⟨h1, h2, h3⟩ := ctS_1 ct
    have x2 := ((V.2.2 pb y b0 (by omega) (by omega) (by omega)).2 h1).1.2
    have en : nxS w v g pa pb da db y = (haS w v g pb pa y, drS w v g pa da, db) := if_neg e
    have ne : pb ≠ pa := fun z => by
      rw [z] at h1
      omega
    have v1 := V.1
    refine ⟨y, ⟨by omega, x2⟩, y2, Or.inr ⟨h2, h1, lts_12 h3, en⟩, ?_, ?_, fun i i0 i1 => ?_⟩
    · rw [en]
      exact X.hand b0 b1 a0 a1 (by omega) x2 h1 h2 (lts_12 h3) c1
    · rw [en]
      have := haS_c (v := v) (x := (y : Int)) W R b0 b1 a0 a1 ne (by omega) (by omega) (by omega)
      show haS w v g pb pa y (1 + 5 * pa + 1) + haS w v g pb pa y (1 + 5 * pb + 1) + 1 ≤ _
      omega
    · rw [en]
      exact haS_o W b0 b1 a0 a1 (by omega) (by omega) i0 i1
/-- a meeting keeps what it must -/
theorem VX.meet {ln sp : Int} {kd nm bg so : Int → Int} (R : Rrul ln sp kd nm bg so g) (a0 : 0 ≤ pa) (a1 : pa < w 0) (b0 : 0 ≤ pb) (b1 : pb < w 0) : ∀ (k : Nat) (v : Int → Int) (da db : Nat), VX told w v g → VX told w (mtS w g pa pb k v da db) g ∧ ∀ i : Int, i < 51 → (∀ p k : Int, 0 ≤ p → 1 ≤ k → k ≤ 4 → i ≠ 1 + 5 * p + k) → mtS w g pa pb k v da db i = v i
  | 0, v, da, db, X => ⟨X, fun i _ _ => rfl⟩
  | k + 1, v, da, db, X => by
    by_cases c : 0 < v (1 + 5 * pa + 1) ∧ 0 < v (1 + 5 * pb + 1) ∧ 0 ≤ (rfS w v g pa pb da db 30).1
    · obtain ⟨y, -, y2, -, X1, -, E1⟩ := X.pick R a0 a1 b0 b1 c.1 c.2.1 c.2.2
      rw [mtS, if_pos c, y2]
      obtain ⟨X2, E2⟩ := VX.meet R a0 a1 b0 b1 k _ (nxS w v g pa pb da db y).2.1 (nxS w v g pa pb da db y).2.2 X1
      exact ⟨X2, fun i i0 i1 => (E2 i i0 i1).trans (E1 i i0 i1)⟩
    · rw [mtS, if_neg c]
      exact ⟨X, fun i _ _ => rfl⟩
end VXS
section MEETM
variable {S : xH} {m m' m0 : Nat → Int → Int} {q q' : Nat → Int → Int64} {told pa pb y ln sp : Int} {w v g kd nm bg so : Int → Int} {da db : Nat}
def Fr5 (m0 m : Nat → Int → Int) : Prop := ∀ b i, b ≠ 137 → b ≠ 143 → b ≠ 144 → b ≠ 145 → b ≠ 146 → m b i = m0 b i
theorem Fr5.tr {m m1 m2 : Nat → Int → Int} (h1 : Fr5 m m1) (h2 : Fr5 m1 m2) : Fr5 m m2 := fun b i c1 c2 c3 c4 c5 => (h2 b i c1 c2 c3 c4 c5).trans (h1 b i c1 c2 c3 c4 c5)
theorem Fr5.row {m m1 : Nat → Int → Int} (h : Fr5 m m1) {b : Nat} (h0 : b ≠ 137) (h1 : b ≠ 143) (h2 : b ≠ 144) (h3 : b ≠ 145) (h4 : b ≠ 146) : m1 b = m b := funext fun i => h b i h0 h1 h2 h3 h4
theorem rfS_w1 (V : Vok told w v) (w1 : w 1 ≤ 30) (a0 : 0 ≤ pa) (a1 : pa < 10) (b0 : 0 ≤ pb) (b1 : pb < 10) : rfS w v g pa pb da db (w 1).toNat = rfS w v g pa pb da db 30 := by
  have v1 := V.1
  have := rfS_stop (w := w) (v := v) (g := g) (pa := pa) (pb := pb) (da := da) (db := db) (w 1).toNat (30 - (w 1).toNat) (fun x h0 h1 => ⟨ctS_has (fun z => by
    have := ((V.2.2 pa x a0 a1 (by omega) (by omega)).2 z).1
    omega), ctS_has (fun z => by
    have := ((V.2.2 pb x b0 b1 (by omega) (by omega)).2 z).1
    omega)⟩)
  rw [show (w 1).toNat + (30 - (w 1).toNat) = 30 by omega] at this
  exact this.symm
theorem q_meetM_l (hs : Sk S) (R : Rrul ln sp kd nm bg so g) (a0 : 0 ≤ pa) (a1 : pa < w 0) (b0 : 0 ≤ pb) (b1 : pb < w 0) (ne : pa ≠ pb) : ∀ (k : Nat) (m : Nat → Int → Int) (da db : Nat), m 139 = w → VX told w (m 137) g → RulM m y g → GvM m 0 da → GvM m 1 db → m 137 (1 + 5 * pa + 1) + m 137 (1 + 5 * pb + 1) ≤ k → ∃ m', De (fun n => f_X11_meet n 23 [.ref 136, .int (J pa), .int (J pb), .int (J 1)] (hp S m q)) (.inl none) (hp S m' q) ∧ m' 137 = mtS w g pa pb k (m 137) da db ∧ Fr5 m m' := by
  intro k
  induction k with
  | zero =>
    intro m da db e9 X M Ga Gb hk
    have W := X.wok
    have V := X.vok
    have tw := W.1.2.1
    have va := V.2.1 pa a0 a1
    have vb := V.2.1 pb b0 b1
    refine ⟨m, ?_, rfl, fun _ _ _ _ _ _ _ => rfl⟩
    refine De.step ?_
    simp only [j_X11_meet_23]
    simp (disch := omega) only [b_X11_meet_23, x136_k hs, x136_i0 hs, x136_w0 hs, x136_r1 hs, x136_r2 hs, x136_r3 hs, x136_r4 hs, x136_i5 hs, x136_w5 hs, x136_i6 hs, x136_w6 hs, x136_i7 hs, x136_w7 hs, x136_r8 hs, x136_i9 hs, x136_w9 hs, x136_i10 hs, x136_w10 hs, x136_i11 hs, x136_w11 hs, x136_i12 hs, x136_w12 hs, x136_i13 hs, x136_w13 hs, x136_i14 hs, x136_w14 hs, x136_r15 hs, x136_i16 hs, x136_w16 hs, x136_r17 hs, x136_r18 hs, x136_r19 hs, x136_r20 hs, x136_r21 hs, x136_i22 hs, x136_w22 hs, x136_r23 hs, x136_r24 hs, x136_i25 hs, x136_w25 hs, x136_i26 hs, x136_w26 hs, x136_r27 hs, x136_r28 hs, x136_i29 hs, x136_w29 hs, Option.bind_some, xI, xU, xUt, xIt, J_lit, J_add, J_sub, J_mul, J_neg, J_ltc, J_lec, J_eqc, lt_T, lt_F, le_T, le_F, eq_T, eq_F, ↓reduceIte, ite_not, not_true_eq_false, not_false_eq_true, true_or, or_true, false_or, or_false, true_and, and_true, false_and, and_false, up_get, Nat.reduceEqDiff, Int.reduceNeg, eqN_T, eqN_F]
    refine De.call (d_phoneAt pa 1 _) ?_
    simp (disch := omega) only [x136_k hs, x136_i0 hs, x136_w0 hs, x136_r1 hs, x136_r2 hs, x136_r3 hs, x136_r4 hs, x136_i5 hs, x136_w5 hs, x136_i6 hs, x136_w6 hs, x136_i7 hs, x136_w7 hs, x136_r8 hs, x136_i9 hs, x136_w9 hs, x136_i10 hs, x136_w10 hs, x136_i11 hs, x136_w11 hs, x136_i12 hs, x136_w12 hs, x136_i13 hs, x136_w13 hs, x136_i14 hs, x136_w14 hs, x136_r15 hs, x136_i16 hs, x136_w16 hs, x136_r17 hs, x136_r18 hs, x136_r19 hs, x136_r20 hs, x136_r21 hs, x136_i22 hs, x136_w22 hs, x136_r23 hs, x136_r24 hs, x136_i25 hs, x136_w25 hs, x136_i26 hs, x136_w26 hs, x136_r27 hs, x136_r28 hs, x136_i29 hs, x136_w29 hs, x137_g hs, x137_s hs, x137_l hs, Option.bind_some, xI, xU, xUt, xIt, J_lit, J_add, J_sub, J_mul, J_neg, J_ltc, J_lec, J_eqc, lt_T, lt_F, le_T, le_F, eq_T, eq_F, ↓reduceIte, ite_not, not_true_eq_false, not_false_eq_true, true_or, or_true, false_or, or_false, true_and, and_true, false_and, and_false, up_get, Nat.reduceEqDiff, Int.reduceNeg, eqN_T, eqN_F]
    exact De.ret _ _
  | succ k IH =>
    intro m da db e9 X M Ga Gb hk
    have W := X.wok
    have V := X.vok
    have tw := W.1.2.1
    have w1 := W.2.1
    have v1 := V.1
    have va := V.2.1 pa a0 a1
    have vb := V.2.1 pb b0 b1
    by_cases c1 : 0 < m 137 (1 + 5 * pa + 1)
    · by_cases c2 : 0 < m 137 (1 + 5 * pb + 1)
      · obtain ⟨m1, F1, S1⟩ := q_best_l (q := q) (m0 := m) (pa := pa) (pb := pb) hs (by rw [e9]; exact W) (by rw [e9]; exact V) M R a0 (by rw [e9]; exact a1) b0 (by rw [e9]; exact b1) Ga Gb (m 139 1).toNat 0 m (by rw [e9]; omega) (fun _ _ _ _ _ => rfl)
        have f9 : m1 139 = w := (F1.row (by decide) (by decide) (by decide)).trans e9
        have f7 : m1 137 = m 137 := F1.row (by decide) (by decide) (by decide)
        have M1 := M.cg (m' := m1) (F1 136 6 (by decide) (by decide) (by decide)) (fun i => F1 139 i (by decide) (by decide) (by decide))
        have Ga1 : GvM m1 0 da := fun z z0 z1 => (F1 146 _ (by decide) (by decide) (by decide)).trans (Ga z z0 z1)
        have Gb1 : GvM m1 1 db := fun z z0 z1 => (F1 146 _ (by decide) (by decide) (by decide)).trans (Gb z z0 z1)
        have G1 : Fr5 m m1 := fun b i _ h2 h3 h4 _ => F1 b i h2 h3 h4
        rw [e9, rfS_w1 V w1.2 a0 (by omega) b0 (by omega)] at S1
        have Z : ∀ {r' : xR} {P' : xH}, De (fun n => f_X11_meet n 62 [.ref 136, .int (J pa), .int (J pb), .int (J 1), .int (J (-1)), .int (J 0), .int (J 0)] (hp S m q)) r' P' → De (fun n => f_X11_meet n 23 [.ref 136, .int (J pa), .int (J pb), .int (J 1)] (hp S m q)) r' P' := by
          intro r' P' D
          refine De.step ?_
          simp only [j_X11_meet_23]
          simp (disch := omega) only [b_X11_meet_23, x136_k hs, x136_i0 hs, x136_w0 hs, x136_r1 hs, x136_r2 hs, x136_r3 hs, x136_r4 hs, x136_i5 hs, x136_w5 hs, x136_i6 hs, x136_w6 hs, x136_i7 hs, x136_w7 hs, x136_r8 hs, x136_i9 hs, x136_w9 hs, x136_i10 hs, x136_w10 hs, x136_i11 hs, x136_w11 hs, x136_i12 hs, x136_w12 hs, x136_i13 hs, x136_w13 hs, x136_i14 hs, x136_w14 hs, x136_r15 hs, x136_i16 hs, x136_w16 hs, x136_r17 hs, x136_r18 hs, x136_r19 hs, x136_r20 hs, x136_r21 hs, x136_i22 hs, x136_w22 hs, x136_r23 hs, x136_r24 hs, x136_i25 hs, x136_w25 hs, x136_i26 hs, x136_w26 hs, x136_r27 hs, x136_r28 hs, x136_i29 hs, x136_w29 hs, Option.bind_some, xI, xU, xUt, xIt, J_lit, J_add, J_sub, J_mul, J_neg, J_ltc, J_lec, J_eqc, lt_T, lt_F, le_T, le_F, eq_T, eq_F, ↓reduceIte, ite_not, not_true_eq_false, not_false_eq_true, true_or, or_true, false_or, or_false, true_and, and_true, false_and, and_false, up_get, Nat.reduceEqDiff, Int.reduceNeg, eqN_T, eqN_F]
          refine De.call (d_phoneAt pa 1 _) ?_
          simp (disch := omega) only [x136_k hs, x136_i0 hs, x136_w0 hs, x136_r1 hs, x136_r2 hs, x136_r3 hs, x136_r4 hs, x136_i5 hs, x136_w5 hs, x136_i6 hs, x136_w6 hs, x136_i7 hs, x136_w7 hs, x136_r8 hs, x136_i9 hs, x136_w9 hs, x136_i10 hs, x136_w10 hs, x136_i11 hs, x136_w11 hs, x136_i12 hs, x136_w12 hs, x136_i13 hs, x136_w13 hs, x136_i14 hs, x136_w14 hs, x136_r15 hs, x136_i16 hs, x136_w16 hs, x136_r17 hs, x136_r18 hs, x136_r19 hs, x136_r20 hs, x136_r21 hs, x136_i22 hs, x136_w22 hs, x136_r23 hs, x136_r24 hs, x136_i25 hs, x136_w25 hs, x136_i26 hs, x136_w26 hs, x136_r27 hs, x136_r28 hs, x136_i29 hs, x136_w29 hs, x137_g hs, x137_s hs, x137_l hs, Option.bind_some, xI, xU, xUt, xIt, J_lit, J_add, J_sub, J_mul, J_neg, J_ltc, J_lec, J_eqc, lt_T, lt_F, le_T, le_F, eq_T, eq_F, ↓reduceIte, ite_not, not_true_eq_false, not_false_eq_true, true_or, or_true, false_or, or_false, true_and, and_true, false_and, and_false, up_get, Nat.reduceEqDiff, Int.reduceNeg, eqN_T, eqN_F]
          refine De.call (d_phoneAt pb 1 _) ?_
          simp (disch := omega) only [x136_k hs, x136_i0 hs, x136_w0 hs, x136_r1 hs, x136_r2 hs, x136_r3 hs, x136_r4 hs, x136_i5 hs, x136_w5 hs, x136_i6 hs, x136_w6 hs, x136_i7 hs, x136_w7 hs, x136_r8 hs, x136_i9 hs, x136_w9 hs, x136_i10 hs, x136_w10 hs, x136_i11 hs, x136_w11 hs, x136_i12 hs, x136_w12 hs, x136_i13 hs, x136_w13 hs, x136_i14 hs, x136_w14 hs, x136_r15 hs, x136_i16 hs, x136_w16 hs, x136_r17 hs, x136_r18 hs, x136_r19 hs, x136_r20 hs, x136_r21 hs, x136_i22 hs, x136_w22 hs, x136_r23 hs, x136_r24 hs, x136_i25 hs, x136_w25 hs, x136_i26 hs, x136_w26 hs, x136_r27 hs, x136_r28 hs, x136_i29 hs, x136_w29 hs, x137_g hs, x137_s hs, x137_l hs, Option.bind_some, xI, xU, xUt, xIt, J_lit, J_add, J_sub, J_mul, J_neg, J_ltc, J_lec, J_eqc, lt_T, lt_F, le_T, le_F, eq_T, eq_F, ↓reduceIte, ite_not, not_true_eq_false, not_false_eq_true, true_or, or_true, false_or, or_false, true_and, and_true, false_and, and_false, up_get, Nat.reduceEqDiff, Int.reduceNeg, eqN_T, eqN_F]
          exact D
        by_cases c3 : 0 ≤ (rfS w (m 137) g pa pb da db 30).1
        · obtain ⟨x, ⟨x0, x1⟩, x2, x3, X2, dec, -⟩ := X.pick R a0 a1 b0 b1 c1 c2 c3
          rw [mtS, if_pos ⟨c1, c2, c3⟩]
          rw [x2] at S1 ⊢
          rw [if_neg (show ¬ x < 0 by omega)] at S1
          have hx := X.had x0 x1
          rcases x3 with ⟨h1, h2, h3, en⟩ | ⟨h1, h2, h3, en⟩
          · obtain ⟨L, P⟩ := X.pth a0 (by omega) x0 (by omega) h1
            rw [en] at X2 dec ⊢
            simp only at dec
            obtain ⟨m2, D2, A2, Gn, Go, F2⟩ := q_handsM (q := q) (m := m1) (gi := pa) (ta := pb) (x := x) (sd := 1) (L := L) (told := told) hs (by rw [f9]; exact W) (by rw [f9, f7]; exact V) M1 R a0 (by rw [f9]; exact a1) b0 (by rw [f9]; exact b1) ne x0 (by rw [f9]; omega) (by rw [f7]; exact h1) (by rw [f7]; exact hx) (by rw [f9, f7]; exact P) (by rw [f7]; exact h3) (by decide) (by decide) Gb1
            rw [f9, f7] at A2 Gn
            have H2 : Fr5 m1 m2 := F2
            have DH := d_has (q := q) (m := m1) (p := pa) (x := x) hs a0 (by omega) x0 (by omega) (by rw [f7, h1]; decide) (by rw [f7, h1]; decide)
            rw [f7, if_pos h1] at DH
            obtain ⟨m', D', A', F'⟩ := IH m2 da (drS w (m 137) g pb db) ((H2.row (by decide) (by decide) (by decide) (by decide) (by decide)).trans f9) (by rw [A2]; exact X2) (M1.cg (F2 136 6 (by decide) (by decide) (by decide) (by decide) (by decide)) (fun i => F2 139 i (by decide) (by decide) (by decide) (by decide) (by decide))) (fun z z0 z1 => (Go _ (by omega)).trans (Ga1 z z0 z1)) Gn (by rw [A2]; omega)
            rw [A2] at A'
            refine ⟨m', Z (S1 ?_), A', G1.tr (H2.tr F')⟩
            refine De.step ?_
            simp only [j_X11_meet_175]
            simp (disch := omega) only [b_X11_meet_175, x136_k hs, x136_i0 hs, x136_w0 hs, x136_r1 hs, x136_r2 hs, x136_r3 hs, x136_r4 hs, x136_i5 hs, x136_w5 hs, x136_i6 hs, x136_w6 hs, x136_i7 hs, x136_w7 hs, x136_r8 hs, x136_i9 hs, x136_w9 hs, x136_i10 hs, x136_w10 hs, x136_i11 hs, x136_w11 hs, x136_i12 hs, x136_w12 hs, x136_i13 hs, x136_w13 hs, x136_i14 hs, x136_w14 hs, x136_r15 hs, x136_i16 hs, x136_w16 hs, x136_r17 hs, x136_r18 hs, x136_r19 hs, x136_r20 hs, x136_r21 hs, x136_i22 hs, x136_w22 hs, x136_r23 hs, x136_r24 hs, x136_i25 hs, x136_w25 hs, x136_i26 hs, x136_w26 hs, x136_r27 hs, x136_r28 hs, x136_i29 hs, x136_w29 hs, Option.bind_some, xI, xU, xUt, xIt, J_lit, J_add, J_sub, J_mul, J_neg, J_ltc, J_lec, J_eqc, lt_T, lt_F, le_T, le_F, eq_T, eq_F, ↓reduceIte, ite_not, not_true_eq_false, not_false_eq_true, true_or, or_true, false_or, or_false, true_and, and_true, false_and, and_false, up_get, Nat.reduceEqDiff, Int.reduceNeg, eqN_T, eqN_F]
            refine De.call DH ?_
            simp (disch := omega) only [x136_k hs, x136_i0 hs, x136_w0 hs, x136_r1 hs, x136_r2 hs, x136_r3 hs, x136_r4 hs, x136_i5 hs, x136_w5 hs, x136_i6 hs, x136_w6 hs, x136_i7 hs, x136_w7 hs, x136_r8 hs, x136_i9 hs, x136_w9 hs, x136_i10 hs, x136_w10 hs, x136_i11 hs, x136_w11 hs, x136_i12 hs, x136_w12 hs, x136_i13 hs, x136_w13 hs, x136_i14 hs, x136_w14 hs, x136_r15 hs, x136_i16 hs, x136_w16 hs, x136_r17 hs, x136_r18 hs, x136_r19 hs, x136_r20 hs, x136_r21 hs, x136_i22 hs, x136_w22 hs, x136_r23 hs, x136_r24 hs, x136_i25 hs, x136_w25 hs, x136_i26 hs, x136_w26 hs, x136_r27 hs, x136_r28 hs, x136_i29 hs, x136_w29 hs, Option.bind_some, xI, xU, xUt, xIt, J_lit, J_add, J_sub, J_mul, J_neg, J_ltc, J_lec, J_eqc, lt_T, lt_F, le_T, le_F, eq_T, eq_F, ↓reduceIte, ite_not, not_true_eq_false, not_false_eq_true, true_or, or_true, false_or, or_false, true_and, and_true, false_and, and_false, up_get, Nat.reduceEqDiff, Int.reduceNeg, eqN_T, eqN_F]
            refine De.call D2 ?_
            simp (disch := omega) only [Option.bind_some, xI, xU, xUt, xIt, J_lit, J_add, J_sub, J_mul, J_neg, J_ltc, J_lec, J_eqc, lt_T, lt_F, le_T, le_F, eq_T, eq_F, ↓reduceIte, ite_not, not_true_eq_false, not_false_eq_true, true_or, or_true, false_or, or_false, true_and, and_true, false_and, and_false, up_get, Nat.reduceEqDiff, Int.reduceNeg, eqN_T, eqN_F]
            exact D'
          · obtain ⟨L, P⟩ := X.pth b0 (by omega) x0 (by omega) h2
            rw [en] at X2 dec ⊢
            simp only at dec
            obtain ⟨m2, D2, A2, Gn, Go, F2⟩ := q_handsM (q := q) (m := m1) (gi := pb) (ta := pa) (x := x) (sd := 0) (L := L) (told := told) hs (by rw [f9]; exact W) (by rw [f9, f7]; exact V) M1 R b0 (by rw [f9]; exact b1) a0 (by rw [f9]; exact a1) ne.symm x0 (by rw [f9]; omega) (by rw [f7]; exact h2) (by rw [f7]; exact hx) (by rw [f9, f7]; exact P) (by rw [f7]; exact h3) (by decide) (by decide) Ga1
            rw [f9, f7] at A2 Gn
            have H2 : Fr5 m1 m2 := F2
            have DH := d_has (q := q) (m := m1) (p := pa) (x := x) hs a0 (by omega) x0 (by omega) (by rw [f7, h1]; decide) (by rw [f7, h1]; decide)
            rw [f7, if_neg (by rw [h1]; decide)] at DH
            obtain ⟨m', D', A', F'⟩ := IH m2 (drS w (m 137) g pa da) db ((H2.row (by decide) (by decide) (by decide) (by decide) (by decide)).trans f9) (by rw [A2]; exact X2) (M1.cg (F2 136 6 (by decide) (by decide) (by decide) (by decide) (by decide)) (fun i => F2 139 i (by decide) (by decide) (by decide) (by decide) (by decide))) Gn (fun z z0 z1 => (Go _ (by omega)).trans (Gb1 z z0 z1)) (by rw [A2]; omega)
            rw [A2] at A'
            refine ⟨m', Z (S1 ?_), A', G1.tr (H2.tr F')⟩
            refine De.step ?_
            simp only [j_X11_meet_175]
            simp (disch := omega) only [b_X11_meet_175, x136_k hs, x136_i0 hs, x136_w0 hs, x136_r1 hs, x136_r2 hs, x136_r3 hs, x136_r4 hs, x136_i5 hs, x136_w5 hs, x136_i6 hs, x136_w6 hs, x136_i7 hs, x136_w7 hs, x136_r8 hs, x136_i9 hs, x136_w9 hs, x136_i10 hs, x136_w10 hs, x136_i11 hs, x136_w11 hs, x136_i12 hs, x136_w12 hs, x136_i13 hs, x136_w13 hs, x136_i14 hs, x136_w14 hs, x136_r15 hs, x136_i16 hs, x136_w16 hs, x136_r17 hs, x136_r18 hs, x136_r19 hs, x136_r20 hs, x136_r21 hs, x136_i22 hs, x136_w22 hs, x136_r23 hs, x136_r24 hs, x136_i25 hs, x136_w25 hs, x136_i26 hs, x136_w26 hs, x136_r27 hs, x136_r28 hs, x136_i29 hs, x136_w29 hs, Option.bind_some, xI, xU, xUt, xIt, J_lit, J_add, J_sub, J_mul, J_neg, J_ltc, J_lec, J_eqc, lt_T, lt_F, le_T, le_F, eq_T, eq_F, ↓reduceIte, ite_not, not_true_eq_false, not_false_eq_true, true_or, or_true, false_or, or_false, true_and, and_true, false_and, and_false, up_get, Nat.reduceEqDiff, Int.reduceNeg, eqN_T, eqN_F]
            refine De.call DH ?_
            simp (disch := omega) only [x136_k hs, x136_i0 hs, x136_w0 hs, x136_r1 hs, x136_r2 hs, x136_r3 hs, x136_r4 hs, x136_i5 hs, x136_w5 hs, x136_i6 hs, x136_w6 hs, x136_i7 hs, x136_w7 hs, x136_r8 hs, x136_i9 hs, x136_w9 hs, x136_i10 hs, x136_w10 hs, x136_i11 hs, x136_w11 hs, x136_i12 hs, x136_w12 hs, x136_i13 hs, x136_w13 hs, x136_i14 hs, x136_w14 hs, x136_r15 hs, x136_i16 hs, x136_w16 hs, x136_r17 hs, x136_r18 hs, x136_r19 hs, x136_r20 hs, x136_r21 hs, x136_i22 hs, x136_w22 hs, x136_r23 hs, x136_r24 hs, x136_i25 hs, x136_w25 hs, x136_i26 hs, x136_w26 hs, x136_r27 hs, x136_r28 hs, x136_i29 hs, x136_w29 hs, Option.bind_some, xI, xU, xUt, xIt, J_lit, J_add, J_sub, J_mul, J_neg, J_ltc, J_lec, J_eqc, lt_T, lt_F, le_T, le_F, eq_T, eq_F, ↓reduceIte, ite_not, not_true_eq_false, not_false_eq_true, true_or, or_true, false_or, or_false, true_and, and_true, false_and, and_false, up_get, Nat.reduceEqDiff, Int.reduceNeg, eqN_T, eqN_F]
            refine De.call D2 ?_
            simp (disch := omega) only [Option.bind_some, xI, xU, xUt, xIt, J_lit, J_add, J_sub, J_mul, J_neg, J_ltc, J_lec, J_eqc, lt_T, lt_F, le_T, le_F, eq_T, eq_F, ↓reduceIte, ite_not, not_true_eq_false, not_false_eq_true, true_or, or_true, false_or, or_false, true_and, and_true, false_and, and_false, up_get, Nat.reduceEqDiff, Int.reduceNeg, eqN_T, eqN_F]
            exact D'
        · rw [mtS_no (fun z => c3 z.2.2)]
          rw [if_pos (show (rfS w (m 137) g pa pb da db 30).1 < 0 by omega)] at S1
          refine ⟨m1, Z (S1 ?_), f7, G1⟩
          refine De.step ?_
          simp only [j_X11_meet_175]
          simp (disch := omega) only [b_X11_meet_175, Option.bind_some, xI, xU, xUt, xIt, J_lit, J_add, J_sub, J_mul, J_neg, J_ltc, J_lec, J_eqc, lt_T, lt_F, le_T, le_F, eq_T, eq_F, ↓reduceIte, ite_not, not_true_eq_false, not_false_eq_true, true_or, or_true, false_or, or_false, true_and, and_true, false_and, and_false, up_get, Nat.reduceEqDiff, Int.reduceNeg, eqN_T, eqN_F]
          refine De.step ?_
          simp only [j_X11_meet_23]
          simp (disch := omega) only [b_X11_meet_23, Option.bind_some, xI, xU, xUt, xIt, J_lit, J_add, J_sub, J_mul, J_neg, J_ltc, J_lec, J_eqc, lt_T, lt_F, le_T, le_F, eq_T, eq_F, ↓reduceIte, ite_not, not_true_eq_false, not_false_eq_true, true_or, or_true, false_or, or_false, true_and, and_true, false_and, and_false, up_get, Nat.reduceEqDiff, Int.reduceNeg, eqN_T, eqN_F]
          exact De.ret _ _
      · rw [mtS_no (fun z => c2 z.2.1)]
        refine ⟨m, ?_, rfl, fun _ _ _ _ _ _ _ => rfl⟩
        refine De.step ?_
        simp only [j_X11_meet_23]
        simp (disch := omega) only [b_X11_meet_23, x136_k hs, x136_i0 hs, x136_w0 hs, x136_r1 hs, x136_r2 hs, x136_r3 hs, x136_r4 hs, x136_i5 hs, x136_w5 hs, x136_i6 hs, x136_w6 hs, x136_i7 hs, x136_w7 hs, x136_r8 hs, x136_i9 hs, x136_w9 hs, x136_i10 hs, x136_w10 hs, x136_i11 hs, x136_w11 hs, x136_i12 hs, x136_w12 hs, x136_i13 hs, x136_w13 hs, x136_i14 hs, x136_w14 hs, x136_r15 hs, x136_i16 hs, x136_w16 hs, x136_r17 hs, x136_r18 hs, x136_r19 hs, x136_r20 hs, x136_r21 hs, x136_i22 hs, x136_w22 hs, x136_r23 hs, x136_r24 hs, x136_i25 hs, x136_w25 hs, x136_i26 hs, x136_w26 hs, x136_r27 hs, x136_r28 hs, x136_i29 hs, x136_w29 hs, Option.bind_some, xI, xU, xUt, xIt, J_lit, J_add, J_sub, J_mul, J_neg, J_ltc, J_lec, J_eqc, lt_T, lt_F, le_T, le_F, eq_T, eq_F, ↓reduceIte, ite_not, not_true_eq_false, not_false_eq_true, true_or, or_true, false_or, or_false, true_and, and_true, false_and, and_false, up_get, Nat.reduceEqDiff, Int.reduceNeg, eqN_T, eqN_F]
        refine De.call (d_phoneAt pa 1 _) ?_
        simp (disch := omega) only [x136_k hs, x136_i0 hs, x136_w0 hs, x136_r1 hs, x136_r2 hs, x136_r3 hs, x136_r4 hs, x136_i5 hs, x136_w5 hs, x136_i6 hs, x136_w6 hs, x136_i7 hs, x136_w7 hs, x136_r8 hs, x136_i9 hs, x136_w9 hs, x136_i10 hs, x136_w10 hs, x136_i11 hs, x136_w11 hs, x136_i12 hs, x136_w12 hs, x136_i13 hs, x136_w13 hs, x136_i14 hs, x136_w14 hs, x136_r15 hs, x136_i16 hs, x136_w16 hs, x136_r17 hs, x136_r18 hs, x136_r19 hs, x136_r20 hs, x136_r21 hs, x136_i22 hs, x136_w22 hs, x136_r23 hs, x136_r24 hs, x136_i25 hs, x136_w25 hs, x136_i26 hs, x136_w26 hs, x136_r27 hs, x136_r28 hs, x136_i29 hs, x136_w29 hs, x137_g hs, x137_s hs, x137_l hs, Option.bind_some, xI, xU, xUt, xIt, J_lit, J_add, J_sub, J_mul, J_neg, J_ltc, J_lec, J_eqc, lt_T, lt_F, le_T, le_F, eq_T, eq_F, ↓reduceIte, ite_not, not_true_eq_false, not_false_eq_true, true_or, or_true, false_or, or_false, true_and, and_true, false_and, and_false, up_get, Nat.reduceEqDiff, Int.reduceNeg, eqN_T, eqN_F]
        refine De.call (d_phoneAt pb 1 _) ?_
        simp (disch := omega) only [x136_k hs, x136_i0 hs, x136_w0 hs, x136_r1 hs, x136_r2 hs, x136_r3 hs, x136_r4 hs, x136_i5 hs, x136_w5 hs, x136_i6 hs, x136_w6 hs, x136_i7 hs, x136_w7 hs, x136_r8 hs, x136_i9 hs, x136_w9 hs, x136_i10 hs, x136_w10 hs, x136_i11 hs, x136_w11 hs, x136_i12 hs, x136_w12 hs, x136_i13 hs, x136_w13 hs, x136_i14 hs, x136_w14 hs, x136_r15 hs, x136_i16 hs, x136_w16 hs, x136_r17 hs, x136_r18 hs, x136_r19 hs, x136_r20 hs, x136_r21 hs, x136_i22 hs, x136_w22 hs, x136_r23 hs, x136_r24 hs, x136_i25 hs, x136_w25 hs, x136_i26 hs, x136_w26 hs, x136_r27 hs, x136_r28 hs, x136_i29 hs, x136_w29 hs, x137_g hs, x137_s hs, x137_l hs, Option.bind_some, xI, xU, xUt, xIt, J_lit, J_add, J_sub, J_mul, J_neg, J_ltc, J_lec, J_eqc, lt_T, lt_F, le_T, le_F, eq_T, eq_F, ↓reduceIte, ite_not, not_true_eq_false, not_false_eq_true, true_or, or_true, false_or, or_false, true_and, and_true, false_and, and_false, up_get, Nat.reduceEqDiff, Int.reduceNeg, eqN_T, eqN_F]
        exact De.ret _ _
    · rw [mtS_no (fun z => c1 z.1)]
      refine ⟨m, ?_, rfl, fun _ _ _ _ _ _ _ => rfl⟩
      refine De.step ?_
      simp only [j_X11_meet_23]
      simp (disch := omega) only [b_X11_meet_23, x136_k hs, x136_i0 hs, x136_w0 hs, x136_r1 hs, x136_r2 hs, x136_r3 hs, x136_r4 hs, x136_i5 hs, x136_w5 hs, x136_i6 hs, x136_w6 hs, x136_i7 hs, x136_w7 hs, x136_r8 hs, x136_i9 hs, x136_w9 hs, x136_i10 hs, x136_w10 hs, x136_i11 hs, x136_w11 hs, x136_i12 hs, x136_w12 hs, x136_i13 hs, x136_w13 hs, x136_i14 hs, x136_w14 hs, x136_r15 hs, x136_i16 hs, x136_w16 hs, x136_r17 hs, x136_r18 hs, x136_r19 hs, x136_r20 hs, x136_r21 hs, x136_i22 hs, x136_w22 hs, x136_r23 hs, x136_r24 hs, x136_i25 hs, x136_w25 hs, x136_i26 hs, x136_w26 hs, x136_r27 hs, x136_r28 hs, x136_i29 hs, x136_w29 hs, Option.bind_some, xI, xU, xUt, xIt, J_lit, J_add, J_sub, J_mul, J_neg, J_ltc, J_lec, J_eqc, lt_T, lt_F, le_T, le_F, eq_T, eq_F, ↓reduceIte, ite_not, not_true_eq_false, not_false_eq_true, true_or, or_true, false_or, or_false, true_and, and_true, false_and, and_false, up_get, Nat.reduceEqDiff, Int.reduceNeg, eqN_T, eqN_F]
      refine De.call (d_phoneAt pa 1 _) ?_
      simp (disch := omega) only [x136_k hs, x136_i0 hs, x136_w0 hs, x136_r1 hs, x136_r2 hs, x136_r3 hs, x136_r4 hs, x136_i5 hs, x136_w5 hs, x136_i6 hs, x136_w6 hs, x136_i7 hs, x136_w7 hs, x136_r8 hs, x136_i9 hs, x136_w9 hs, x136_i10 hs, x136_w10 hs, x136_i11 hs, x136_w11 hs, x136_i12 hs, x136_w12 hs, x136_i13 hs, x136_w13 hs, x136_i14 hs, x136_w14 hs, x136_r15 hs, x136_i16 hs, x136_w16 hs, x136_r17 hs, x136_r18 hs, x136_r19 hs, x136_r20 hs, x136_r21 hs, x136_i22 hs, x136_w22 hs, x136_r23 hs, x136_r24 hs, x136_i25 hs, x136_w25 hs, x136_i26 hs, x136_w26 hs, x136_r27 hs, x136_r28 hs, x136_i29 hs, x136_w29 hs, x137_g hs, x137_s hs, x137_l hs, Option.bind_some, xI, xU, xUt, xIt, J_lit, J_add, J_sub, J_mul, J_neg, J_ltc, J_lec, J_eqc, lt_T, lt_F, le_T, le_F, eq_T, eq_F, ↓reduceIte, ite_not, not_true_eq_false, not_false_eq_true, true_or, or_true, false_or, or_false, true_and, and_true, false_and, and_false, up_get, Nat.reduceEqDiff, Int.reduceNeg, eqN_T, eqN_F]
      exact De.ret _ _
/-- the marks of what was given away are wiped -/
theorem q_meet2 (hs : Sk S) : ∀ (k i : Nat) (m : Nat → Int → Int), i + k = 60 → (∀ z : Int, 0 ≤ z → z < i → m 146 z = 0) → ∃ m', (∀ z : Int, 0 ≤ z → z < 60 → m' 146 z = 0) ∧ (∀ b z, b ≠ 146 → m' b z = m b z) ∧ ∀ {r' : xR} {P' : xH}, De (fun n => f_X11_meet n 23 [.ref 136, .int (J pa), .int (J pb), .int (J 1)] (hp S m' q)) r' P' → De (fun n => f_X11_meet n 2 [.ref 136, .int (J pa), .int (J pb), .int (J i)] (hp S m q)) r' P' := by
  intro k
  induction k with
  | zero =>
    intro i m hi h
    refine ⟨m, fun z z0 z1 => h z z0 (by omega), fun _ _ _ => rfl, fun D => ?_⟩
    refine De.step ?_
    simp only [j_X11_meet_2]
    simp (disch := omega) only [b_X11_meet_2, Option.bind_some, xI, xU, xUt, xIt, J_lit, J_add, J_sub, J_mul, J_neg, J_ltc, J_lec, J_eqc, lt_T, lt_F, le_T, le_F, eq_T, eq_F, ↓reduceIte, ite_not, not_true_eq_false, not_false_eq_true, true_or, or_true, false_or, or_false, true_and, and_true, false_and, and_false, up_get, Nat.reduceEqDiff, Int.reduceNeg, eqN_T, eqN_F]
    exact D
  | succ k IH =>
    intro i m hi h
    obtain ⟨m', h1, h2, h3⟩ := IH (i + 1) (up m 146 i 0) (by omega) (fun z z0 z1 => by
      by_cases c : z = i
      · rw [c, up_at]
      · rw [up_i c]
        exact h z z0 (by omega))
    refine ⟨m', h1, fun b z hb => (h2 b z hb).trans (up_a hb), fun D => ?_⟩
    have Q := h3 D
    refine De.step ?_
    simp only [j_X11_meet_2]
    simp (disch := omega) only [b_X11_meet_2, x136_k hs, x136_i0 hs, x136_w0 hs, x136_r1 hs, x136_r2 hs, x136_r3 hs, x136_r4 hs, x136_i5 hs, x136_w5 hs, x136_i6 hs, x136_w6 hs, x136_i7 hs, x136_w7 hs, x136_r8 hs, x136_i9 hs, x136_w9 hs, x136_i10 hs, x136_w10 hs, x136_i11 hs, x136_w11 hs, x136_i12 hs, x136_w12 hs, x136_i13 hs, x136_w13 hs, x136_i14 hs, x136_w14 hs, x136_r15 hs, x136_i16 hs, x136_w16 hs, x136_r17 hs, x136_r18 hs, x136_r19 hs, x136_r20 hs, x136_r21 hs, x136_i22 hs, x136_w22 hs, x136_r23 hs, x136_r24 hs, x136_i25 hs, x136_w25 hs, x136_i26 hs, x136_w26 hs, x136_r27 hs, x136_r28 hs, x136_i29 hs, x136_w29 hs, x146_g hs, x146_s hs, Option.bind_some, xI, xU, xUt, xIt, J_lit, J_add, J_sub, J_mul, J_neg, J_ltc, J_lec, J_eqc, lt_T, lt_F, le_T, le_F, eq_T, eq_F, ↓reduceIte, ite_not, not_true_eq_false, not_false_eq_true, true_or, or_true, false_or, or_false, true_and, and_true, false_and, and_false, up_get, Nat.reduceEqDiff, Int.reduceNeg, eqN_T, eqN_F]
    exact Q
theorem q_meetM (hs : Sk S) (R : Rrul ln sp kd nm bg so g) (a0 : 0 ≤ pa) (a1 : pa < m 139 0) (b0 : 0 ≤ pb) (b1 : pb < m 139 0) (ne : pa ≠ pb) (X : VX told (m 139) (m 137) g) (M : RulM m y g) : ∃ m', De (fun n => f_X11_meet n 0 [.ref 136, .int (J pa), .int (J pb)] (hp S m q)) (.inl none) (hp S m' q) ∧ m' 137 = mtS (m 139) g pa pb 2000 (m 137) 0 0 ∧ Fr5 m m' := by
  have V := X.vok
  have va := V.2.1 pa a0 a1
  have vb := V.2.1 pb b0 b1
  obtain ⟨m1, Z1, F1, S1⟩ := q_meet2 (q := q) (pa := pa) (pb := pb) hs 60 0 m (by omega) (fun z z0 z1 => by omega)
  have e9 : m1 139 = m 139 := funext fun i => F1 139 i (by decide)
  have e7 : m1 137 = m 137 := funext fun i => F1 137 i (by decide)
  obtain ⟨m', D, A, F⟩ := q_meetM_l (q := q) (pa := pa) (pb := pb) (w := m 139) (told := told) hs R a0 a1 b0 b1 ne 2000 m1 0 0 e9 (by rw [e7]; exact X) (M.cg (F1 136 6 (by decide)) (fun i => F1 139 i (by decide))) (fun z z0 z1 => by rw [Nat.zero_testBit, if_neg (by decide)]; exact Z1 _ (by omega) (by omega)) (fun z z0 z1 => by rw [Nat.zero_testBit, if_neg (by decide)]; exact Z1 _ (by omega) (by omega)) (by rw [e7]; omega)
  rw [e7] at A
  refine ⟨m', ?_, A, fun b i h1 h2 h3 h4 h5 => (F b i h1 h2 h3 h4 h5).trans (F1 b i h5)⟩
  refine De.step ?_
  simp only [j_X11_meet_0]
  simp (disch := omega) only [b_X11_meet_0, Option.bind_some, xI, xU, xUt, xIt, J_lit, J_add, J_sub, J_mul, J_neg, J_ltc, J_lec, J_eqc, lt_T, lt_F, le_T, le_F, eq_T, eq_F, ↓reduceIte, ite_not, not_true_eq_false, not_false_eq_true, true_or, or_true, false_or, or_false, true_and, and_true, false_and, and_false, up_get, Nat.reduceEqDiff, Int.reduceNeg, eqN_T, eqN_F]
  exact S1 D
end MEETM
