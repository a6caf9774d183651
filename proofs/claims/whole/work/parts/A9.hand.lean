/-! a handing, by the class -/
def haA (w v g : Int → Int) (ta : Int) : Int → Int := if w (11 + 3 * ta + 1) ≤ cntw v ta 30 then gvS v ta (lsO w v g ta 30).1 else v
def nuA (w v : Int → Int) (gi x : Int) : Int := if w (761 + 10 * x + 0) = 1 ∨ w (761 + 10 * x + 0) = 2 then min (v (51 + 7 * (30 * gi + x) + 1) + w (11 + 3 * gi + 2)) 9999 else v (51 + 7 * (30 * gi + x) + 1)
def haB (w v : Int → Int) (gi ta x : Int) : Int → Int := cmS (unS w v ta x) ta x (nuA w v gi x) (v (51 + 7 * (30 * gi + x) + 2) + 1) gi (wyS (v (51 + 7 * (30 * gi + x) + 5)) gi (v (51 + 7 * (30 * gi + x) + 2))) (moS (v (51 + 7 * (30 * gi + x) + 6)) gi (v (51 + 7 * (30 * gi + x) + 2)))
def haC (v : Int → Int) (gi ta c : Int) : Int → Int := ups (ups (ups (ups v (1 + 5 * gi + 1) (max (v (1 + 5 * gi + 1) - c) 0)) (1 + 5 * ta + 1) (v (1 + 5 * ta + 1) - 1)) (1 + 5 * gi + 2) (v (1 + 5 * gi + 2) + 1)) (1 + 5 * ta + 3) (v (1 + 5 * ta + 3) + 1)
def haS (w v g : Int → Int) (gi ta x : Int) : Int → Int := haC (haB w (haA w v g ta) gi ta x) gi ta (coS g (g 0).toNat)
section HANDC
variable {S : xH} {m m' m0 : Nat → Int → Int} {q q' : Nat → Int → Int64} {a r : Nat} {told gi ta x c s : Int} {w v v' g : Int → Int}
theorem CX.stat (C : CX S m q a r told w v g) (g0 : 0 ≤ gi) (g1 : gi < w 0) (t0 : 0 ≤ ta) (t1 : ta < w 0) (ne : gi ≠ ta) (c0 : 0 ≤ c) (ct : 0 < v (1 + 5 * ta + 1)) : CX S (up (up (up (up m (a + 3) gi (max (v (1 + 5 * gi + 1) - c) 0)) (a + 3) ta (v (1 + 5 * ta + 1) - 1)) (a + 7) gi (v (1 + 5 * gi + 2) + 1)) (a + 8) ta (v (1 + 5 * ta + 3) + 1)) q a r told w (haC v gi ta c) g := by
  obtain ⟨⟨hs, hn, hr, r16, a46⟩, W, WC, NC, R⟩ := id C
  have tw := W.1.2.1
  have w1 := W.2.1
  have n1 := NC.1
  refine C.net (fun b i hb => by rw [up_a (by omega), up_a (by omega), up_a (by omega), up_a (by omega)]) ?_
  have z0 : haC v gi ta c 0 = v 0 := by
    unfold haC
    rw [ups_ne (by omega), ups_ne (by omega), ups_ne (by omega), ups_ne (by omega)]
  refine Rnet.stat NC ⟨W.1.1, tw⟩ w1.2 ⟨?_, ?_, ?_⟩ (by rw [z0]; omega) (fun o i i0 h => ?_) (fun o i i0 h => rfl) (fun i hi => ?_) (fun p a0 a1 => ?_) (fun p a0 a1 => ?_)
  · show up _ _ _ _ (a + 0) 3 = m (a + 0) 3
    rw [up_a (by omega), up_a (by omega), up_a (by omega), up_a (by omega)]
  · show up _ _ _ _ (a + 0) 4 = m (a + 0) 4
    rw [up_a (by omega), up_a (by omega), up_a (by omega), up_a (by omega)]
  · show up _ _ _ _ (a + 0) 2 = _
    rw [up_a (by omega), up_a (by omega), up_a (by omega), up_a (by omega), z0]
    exact n1.2.1
  · show up _ _ _ _ (a + o) i = m (a + o) i
    rw [up_a (by omega), up_a (by omega), up_a (by omega), up_a (by omega)]
  · unfold haC
    rw [ups_ne (by omega), ups_ne (by omega), ups_ne (by omega), ups_ne (by omega)]
  · have y := NC.2.1 p a0 a1
    have yg := NC.2.1 gi g0 g1
    have yt := NC.2.1 ta t0 t1
    have y1 : m (a + 2) p = v (1 + 5 * p + 0) := y.1.1
    have y2 : m (a + 3) p = v (1 + 5 * p + 1) := y.1.2.1
    have y3 : m (a + 7) p = v (1 + 5 * p + 2) := y.1.2.2.2.2.1
    have y4 : m (a + 8) p = v (1 + 5 * p + 3) := y.1.2.2.2.2.2.1
    have y5 : m (a + 9) p = v (1 + 5 * p + 4) := y.1.2.2.2.2.2.2
    have b1 : 0 ≤ m (a + 2) p ∧ m (a + 2) p ≤ 15 ∧ 0 ≤ m (a + 3) p ∧ m (a + 3) p ≤ 1000 := y.2
    have bg : 0 ≤ m (a + 3) gi ∧ m (a + 3) gi ≤ 1000 := ⟨yg.2.2.2.1, yg.2.2.2.2⟩
    have eg : m (a + 3) gi = v (1 + 5 * gi + 1) := yg.1.2.1
    have bt : m (a + 3) ta ≤ 1000 := yt.2.2.2.2
    have et : m (a + 3) ta = v (1 + 5 * ta + 1) := yt.1.2.1
    generalize hM : up (up (up (up m (a + 3) gi (max (v (1 + 5 * gi + 1) - c) 0)) (a + 3) ta (v (1 + 5 * ta + 1) - 1)) (a + 7) gi (v (1 + 5 * gi + 2) + 1)) (a + 8) ta (v (1 + 5 * ta + 3) + 1) = M
    show (M (a + 2) p = _ ∧ M (a + 3) p = _ ∧ M (a + 7) p = _ ∧ M (a + 8) p = _ ∧ M (a + 9) p = _) ∧ (0 ≤ M (a + 2) p ∧ M (a + 2) p ≤ _ ∧ 0 ≤ M (a + 3) p ∧ M (a + 3) p ≤ _)
    have m2 : M (a + 2) p = haC v gi ta c (1 + 5 * p + 0) := by
      rw [← hM, up_a (by omega), up_a (by omega), up_a (by omega), up_a (by omega), y1]
      unfold haC
      rw [ups_ne (by omega), ups_ne (by omega), ups_ne (by omega), ups_ne (by omega)]
    have v2 : haC v gi ta c (1 + 5 * p + 0) = v (1 + 5 * p + 0) := by
      unfold haC
      rw [ups_ne (by omega), ups_ne (by omega), ups_ne (by omega), ups_ne (by omega)]
    have m9 : M (a + 9) p = haC v gi ta c (1 + 5 * p + 4) := by
      rw [← hM, up_a (by omega), up_a (by omega), up_a (by omega), up_a (by omega), y5]
      unfold haC
      rw [ups_ne (by omega), ups_ne (by omega), ups_ne (by omega), ups_ne (by omega)]
    have m8 : M (a + 8) p = haC v gi ta c (1 + 5 * p + 3) := by
      rw [← hM]
      unfold haC
      by_cases e : p = ta
      · rw [e, up_at, ups_at]
      · rw [up_i e, up_a (by omega), up_a (by omega), up_a (by omega), y4, ups_ne (by omega), ups_ne (by omega), ups_ne (by omega), ups_ne (by omega)]
    have m7 : M (a + 7) p = haC v gi ta c (1 + 5 * p + 2) := by
      rw [← hM, up_a (by omega)]
      unfold haC
      rw [ups_ne (by omega)]
      by_cases e : p = gi
      · rw [e, up_at, ups_at]
      · rw [up_i e, up_a (by omega), up_a (by omega), y3, ups_ne (by omega), ups_ne (by omega), ups_ne (by omega)]
    have m3 : M (a + 3) p = haC v gi ta c (1 + 5 * p + 1) ∧ 0 ≤ M (a + 3) p ∧ M (a + 3) p ≤ 1000 := by
      rw [← hM, up_a (by omega), up_a (by omega)]
      unfold haC
      rw [ups_ne (by omega), ups_ne (by omega)]
      by_cases e : p = ta
      · rw [e, up_at, ups_at]
        exact ⟨rfl, by omega, by omega⟩
      · by_cases e2 : p = gi
        · rw [e2, up_i ne, up_at, ups_ne (by omega), ups_at]
          exact ⟨rfl, by omega, by omega⟩
        · rw [up_i e, up_i e2, y2, ups_ne (by omega), ups_ne (by omega)]
          exact ⟨rfl, by omega, by omega⟩
    exact ⟨⟨m2, m3.1, m7, m8, m9⟩, by omega, by omega, m3.2.1, m3.2.2⟩
  · show up _ _ _ _ (a + 7) p = m (a + 7) p ∧ up _ _ _ _ (a + 8) p = m (a + 8) p ∧ up _ _ _ _ (a + 9) p = m (a + 9) p
    refine ⟨?_, ?_, ?_⟩
    · rw [up_a (by omega), up_i (by omega), up_a (by omega), up_a (by omega)]
    · rw [up_i (by omega), up_a (by omega), up_a (by omega), up_a (by omega)]
    · rw [up_a (by omega), up_a (by omega), up_a (by omega), up_a (by omega)]
theorem cmS_o {p nu ho fr wy mo i : Int} (h : i < 51) (p0 : 0 ≤ p) (x0 : 0 ≤ x) : cmS v p x nu ho fr wy mo i = v i := by
  unfold cmS
  split
  · exact (hdS_o (by omega)).trans (ppS_o (by omega))
  · exact ppS_o (by omega)
theorem q_hand72 (C : CX S m q a r told w v g) (g0 : 0 ≤ gi) (g1 : gi < w 0) (t0 : 0 ≤ ta) (t1 : ta < w 0) (x0 : 0 ≤ x) (x1 : x < told) (hg : v (51 + 7 * (30 * gi + x) + 0) = 1) (ht : v (51 + 7 * (30 * ta + x) + 0) = 0) (h12 : v (51 + 7 * (30 * gi + x) + 2) < 12) (ct : 0 < v (1 + 5 * ta + 1)) (s0 : 0 ≤ s) (s1 : s ≤ 9) (z : Int32) : ∃ m' q', De (fun n => f_X1_hand n 72 [.ref a, .int (J gi), .int (J ta), .int (J x), .int z, .int (J s)] (hp S m q)) (.inl none) (hp S m' q') ∧ CX S m' q' a r told w (haC (cmS v ta x (min (v (51 + 7 * (30 * gi + x) + 1) + s) 9999) (v (51 + 7 * (30 * gi + x) + 2) + 1) gi (wyS (v (51 + 7 * (30 * gi + x) + 5)) gi (v (51 + 7 * (30 * gi + x) + 2))) (moS (v (51 + 7 * (30 * gi + x) + 6)) gi (v (51 + 7 * (30 * gi + x) + 2)))) gi ta (coS g (g 0).toNat)) g ∧ (∀ b i, (b < a ∨ a + 22 ≤ b ∨ b = a ∨ b = a + 21) → m' b i = m b i) ∧ ∀ b, b ≠ a + 15 → b ≠ a + 20 → q' b = q b := by
  obtain ⟨⟨hs, hn, hr, r16, a46⟩, W, WC, NC, R⟩ := id C
  have tw := W.1.2.1
  have w1 := W.2.1
  have n1 := NC.1
  have ne : gi ≠ ta := fun e => by
    rw [e] at hg
    omega
  obtain ⟨-, hgf⟩ := NC.2.2.2.1 gi x g0 (by omega) x0 (by omega)
  obtain ⟨-, ⟨c1, c2, c3, c4⟩, c5, c6⟩ := hgf hg
  have e11 : m (a + 11) (30 * gi + x) = v (51 + 7 * (30 * gi + x) + 1) := c1
  have b11 : 0 ≤ m (a + 11) (30 * gi + x) ∧ m (a + 11) (30 * gi + x) ≤ 9999 := c5
  have r2 := R.2.2.1
  have r3 := R.2.1
  have co := coS_in (g := g) R (g 0).toNat (by omega)
  obtain ⟨m1, q1, D1, C1, F1, G1⟩ := q_put1 (nu := min (v (51 + 7 * (30 * gi + x) + 1) + s) 9999) C t0 t1 x0 x1 ht (by omega) (by omega) g0 g1 hg h12
  have o := fun i (h : i < 51) => cmS_o (v := v) (p := ta) (x := x) (nu := min (v (51 + 7 * (30 * gi + x) + 1) + s) 9999) (ho := v (51 + 7 * (30 * gi + x) + 2) + 1) (fr := gi) (wy := wyS (v (51 + 7 * (30 * gi + x) + 5)) gi (v (51 + 7 * (30 * gi + x) + 2))) (mo := moS (v (51 + 7 * (30 * gi + x) + 6)) gi (v (51 + 7 * (30 * gi + x) + 2))) (i := i) h t0 x0
  generalize cmS v ta x (min (v (51 + 7 * (30 * gi + x) + 1) + s) 9999) (v (51 + 7 * (30 * gi + x) + 2) + 1) gi (wyS (v (51 + 7 * (30 * gi + x) + 5)) gi (v (51 + 7 * (30 * gi + x) + 2))) (moS (v (51 + 7 * (30 * gi + x) + 6)) gi (v (51 + 7 * (30 * gi + x) + 2))) = u at C1 o ⊢
  have C2 := C1.stat (c := coS g (g 0).toNat) g0 g1 t0 t1 ne co.1 (by rw [o _ (by omega)]; exact ct)
  obtain ⟨-, -, -, NC1, R1⟩ := id C1
  have yg := NC1.2.1 gi g0 g1
  have yt := NC1.2.1 ta t0 t1
  have y1 : m1 (a + 3) gi = u (1 + 5 * gi + 1) := yg.1.2.1
  have y2 : m1 (a + 3) ta = u (1 + 5 * ta + 1) := yt.1.2.1
  have y3 : m1 (a + 7) gi = u (1 + 5 * gi + 2) := yg.1.2.2.2.2.1
  have y4 : m1 (a + 8) ta = u (1 + 5 * ta + 3) := yt.1.2.2.2.2.2.1
  have y5 : 0 ≤ m1 (a + 3) gi ∧ m1 (a + 3) gi ≤ 1000 := ⟨yg.2.2.2.1, yg.2.2.2.2⟩
  refine ⟨_, q1, ?_, C2, fun b i hb => by rw [up_a (by omega), up_a (by omega), up_a (by omega), up_a (by omega)]; exact F1 b i hb, G1⟩
  refine De.step ?_
  simp only [j_X1_hand_72]
  simp (disch := omega) only [b_X1_hand_72, Net0_r6 hn, Net10_m0 hn, J_lit, Option.bind_some]
  refine De.call (De.eq 1 (fun n => e_cell n gi x _)) ?_
  simp (disch := omega) only [Net0_k hn, Net11_g hn, e11, J_min, Option.bind_some, xI, xU, xUt, xIt, J_lit, J_add, J_sub, J_mul, J_neg, J_ltc, J_lec, J_eqc, lt_T, lt_F, le_T, le_F, eq_T, eq_F, ↓reduceIte, ite_not, not_true_eq_false, not_false_eq_true, true_or, or_true, false_or, or_false, true_and, and_true, false_and, and_false, up_get, Nat.reduceEqDiff, Int.reduceNeg, eqN_T, eqN_F]
  refine De.call D1 ?_
  simp (disch := omega) only [xU, Net0_r1 hn, Net0_r5 hn, Net1_m1 hn, Net3_g hn, Rul0_k hr, Option.bind_some, xI, xU, xUt, xIt, J_lit, J_add, J_sub, J_mul, J_neg, J_ltc, J_lec, J_eqc, lt_T, lt_F, le_T, le_F, eq_T, eq_F, ↓reduceIte, ite_not, not_true_eq_false, not_false_eq_true, true_or, or_true, false_or, or_false, true_and, and_true, false_and, and_false, up_get, Nat.reduceEqDiff, Int.reduceNeg, eqN_T, eqN_F]
  refine De.call (q_costC (q := q1) hr R1) ?_
  simp (disch := omega) only [Net0_r5 hn, Net1_m1 hn, Net1_m5 hn, Net1_m6 hn, Net3_g hn, Net3_s hn, Net7_g hn, Net7_s hn, Net8_g hn, Net8_s hn, y1, y2, y3, y4, J_max, up_a, up_i, ne_eq, Option.bind_some, xI, xU, xUt, xIt, J_lit, J_add, J_sub, J_mul, J_neg, J_ltc, J_lec, J_eqc, lt_T, lt_F, le_T, le_F, eq_T, eq_F, ↓reduceIte, ite_not, not_true_eq_false, not_false_eq_true, true_or, or_true, false_or, or_false, true_and, and_true, false_and, and_false, up_get, Nat.reduceEqDiff, Int.reduceNeg, eqN_T, eqN_F]
  exact De.ret _ _
theorem q_hand18 (C : CX S m q a r told w v g) (g0 : 0 ≤ gi) (g1 : gi < w 0) (t0 : 0 ≤ ta) (t1 : ta < w 0) (x0 : 0 ≤ x) (x1 : x < told) (hg : v (51 + 7 * (30 * gi + x) + 0) = 1) (ht : v (51 + 7 * (30 * ta + x) + 0) = 0) (h12 : v (51 + 7 * (30 * gi + x) + 2) < 12) (ct : 0 < v (1 + 5 * ta + 1)) : ∃ m' q', De (fun n => f_X1_hand n 18 [.ref a, .int (J gi), .int (J ta), .int (J x)] (hp S m q)) (.inl none) (hp S m' q') ∧ CX S m' q' a r told w (haC (haB w v gi ta x) gi ta (coS g (g 0).toNat)) g ∧ (∀ b i, (b < a ∨ a + 22 ≤ b ∨ b = a ∨ b = a + 21) → m' b i = m b i) ∧ ∀ b, b ≠ a + 15 → b ≠ a + 20 → q' b = q b := by
  obtain ⟨⟨hs, hn, hr, r16, a46⟩, W, WC, NC, R⟩ := id C
  have tw := W.1.2.1
  have w1 := W.2.1
  have n1 := NC.1
  have wx := W.2.2 x x0 (by omega)
  have rm := W.1.2.2 gi g0 g1
  obtain ⟨f0, -, -, -, -, f8⟩ := WC.2.1 x x0 (by omega)
  obtain ⟨m1, D1, C1, F1⟩ := q_loseU C t0 t1 x0 x1
  have eu : ∀ (p k : Int), 0 ≤ p → p < 10 → 0 ≤ k → k < 7 → unS w v ta x (51 + 7 * (30 * p + x) + k) = v (51 + 7 * (30 * p + x) + k) := fun p k p0 p1 k0 k1 => unS_x W t0 (by omega) x0 (by omega) p0 p1 (Int.le_refl _) (by omega) k0 k1
  have e0 := eu gi 0 g0 (by omega) (by decide) (by decide)
  have e1 := eu gi 1 g0 (by omega) (by decide) (by decide)
  have e2 := eu gi 2 g0 (by omega) (by decide) (by decide)
  have e5 := eu gi 5 g0 (by omega) (by decide) (by decide)
  have e6 := eu gi 6 g0 (by omega) (by decide) (by decide)
  have t00 := eu ta 0 t0 (by omega) (by decide) (by decide)
  have ec : unS w v ta x (1 + 5 * ta + 1) = v (1 + 5 * ta + 1) := unS_o (by omega) W t0 (by omega) x0 (by omega)
  have sp : ∀ s : Int, 0 ≤ s → s ≤ 9 → (∃ m' q', De (fun n => f_X1_hand n 72 [.ref a, .int (J gi), .int (J ta), .int (J x), .int (J (w (761 + 10 * x + 0))), .int (J s)] (hp S m1 q)) (.inl none) (hp S m' q') ∧ CX S m' q' a r told w (haC (cmS (unS w v ta x) ta x (min (v (51 + 7 * (30 * gi + x) + 1) + s) 9999) (v (51 + 7 * (30 * gi + x) + 2) + 1) gi (wyS (v (51 + 7 * (30 * gi + x) + 5)) gi (v (51 + 7 * (30 * gi + x) + 2))) (moS (v (51 + 7 * (30 * gi + x) + 6)) gi (v (51 + 7 * (30 * gi + x) + 2)))) gi ta (coS g (g 0).toNat)) g ∧ (∀ b i, (b < a ∨ a + 22 ≤ b ∨ b = a ∨ b = a + 21) → m' b i = m1 b i) ∧ ∀ b, b ≠ a + 15 → b ≠ a + 20 → q' b = q b) := fun s s0 s1 => by
    have Q := q_hand72 (s := s) C1 g0 g1 t0 t1 x0 x1 (by rw [e0]; exact hg) (by rw [t00]; exact ht) (by rw [e2]; exact h12) (by rw [ec]; exact ct) s0 s1 (J (w (761 + 10 * x + 0)))
    rw [e1, e2, e5, e6] at Q
    exact Q
  have b1 := (NC.vok.2.2 gi x g0 (by omega) x0 (by omega)).2 hg
  have k18 : m1 18 x = w (761 + 10 * x + 0) := (C1.2.2.1.2.1 x x0 (by omega)).1
  have k6 : m1 (a + 6) gi = w (11 + 3 * gi + 2) := (C1.2.2.2.1.2.1 gi g0 g1).1.2.2.2.1
  have head : ∀ {r' : xR} {P' : xH}, De (fun n => if J (w (761 + 10 * x + 0)) = 1 then f_X1_hand n 60 [.ref a, .int (J gi), .int (J ta), .int (J x), .int (J (w (761 + 10 * x + 0)))] (hp S m1 q) else if ¬ J (w (761 + 10 * x + 0)) = 2 then f_X1_hand n 72 [.ref a, .int (J gi), .int (J ta), .int (J x), .int (J (w (761 + 10 * x + 0))), .int 0] (hp S m1 q) else f_X1_hand n 60 [.ref a, .int (J gi), .int (J ta), .int (J x), .int (J (w (761 + 10 * x + 0)))] (hp S m1 q)) r' P' → De (fun n => f_X1_hand n 18 [.ref a, .int (J gi), .int (J ta), .int (J x)] (hp S m q)) r' P' := fun D => by
    refine De.step ?_
    simp only [j_X1_hand_18]
    simp (disch := omega) only [b_X1_hand_18, Net0_r0 hn, Net0_k hn, x16_k hs, x16_r0 hs, x16_r1 hs, x16_r2 hs, x16_i3 hs, x16_w3 hs, x17_m0 hs, x17_m1 hs, x17_m2 hs, x17_m3 hs, x17_m4 hs, x17_m5 hs, x17_m6 hs, x17_m7 hs, x17_m8 hs, x17_l hs, x26_g hs, x26_s hs, x26_l hs, f8, J_lit, Option.bind_some]
    refine De.call D1 ?_
    simp (disch := omega) only [xU, Net0_r0 hn, x16_k hs, x16_r0 hs, x16_r1 hs, x16_r2 hs, x16_i3 hs, x16_w3 hs, x17_m0 hs, x17_m1 hs, x17_m2 hs, x17_m3 hs, x17_m4 hs, x17_m5 hs, x17_m6 hs, x17_m7 hs, x17_m8 hs, x17_l hs, x18_g hs, x18_s hs, x18_l hs, k18, J_lit, Option.bind_some]
    simp only [J_lit] at D
    exact D
  by_cases k : w (761 + 10 * x + 0) = 1 ∨ w (761 + 10 * x + 0) = 2
  · obtain ⟨m', q', D, C', F', G'⟩ := sp (w (11 + 3 * gi + 2)) (by omega) (by omega)
    refine ⟨m', q', head ?_, ?_, fun b i hb => (F' b i hb).trans (F1 b i (by omega) (by omega) (by omega)), G'⟩
    · have D60 : De (fun n => f_X1_hand n 60 [.ref a, .int (J gi), .int (J ta), .int (J x), .int (J (w (761 + 10 * x + 0)))] (hp S m1 q)) (.inl none) (hp S m' q') := by
        refine De.step ?_
        simp only [j_X1_hand_60]
        simp (disch := omega) only [b_X1_hand_60, Net0_r5 hn, Net1_m4 hn, Net6_g hn, k6, Option.bind_some, xI, xU, xUt, xIt, J_lit, J_add, J_sub, J_mul, J_neg, J_ltc, J_lec, J_eqc, lt_T, lt_F, le_T, le_F, eq_T, eq_F, ↓reduceIte, ite_not, not_true_eq_false, not_false_eq_true, true_or, or_true, false_or, or_false, true_and, and_true, false_and, and_false, up_get, Nat.reduceEqDiff, Int.reduceNeg, eqN_T, eqN_F]
        exact D
      by_cases k1 : w (761 + 10 * x + 0) = 1
      · simp (disch := omega) only [k1, Option.bind_some, xI, xU, xUt, xIt, J_lit, J_add, J_sub, J_mul, J_neg, J_ltc, J_lec, J_eqc, lt_T, lt_F, le_T, le_F, eq_T, eq_F, ↓reduceIte, ite_not, not_true_eq_false, not_false_eq_true, true_or, or_true, false_or, or_false, true_and, and_true, false_and, and_false, up_get, Nat.reduceEqDiff, Int.reduceNeg, eqN_T, eqN_F] at D60 ⊢
        exact D60
      · simp (disch := omega) only [Option.bind_some, xI, xU, xUt, xIt, J_lit, J_add, J_sub, J_mul, J_neg, J_ltc, J_lec, J_eqc, lt_T, lt_F, le_T, le_F, eq_T, eq_F, ↓reduceIte, ite_not, not_true_eq_false, not_false_eq_true, true_or, or_true, false_or, or_false, true_and, and_true, false_and, and_false, up_get, Nat.reduceEqDiff, Int.reduceNeg, eqN_T, eqN_F]
        exact D60
    · unfold haB nuA
      rw [if_pos k]
      exact C'
  · obtain ⟨m', q', D, C', F', G'⟩ := sp 0 (by decide) (by decide)
    refine ⟨m', q', head ?_, ?_, fun b i hb => (F' b i hb).trans (F1 b i (by omega) (by omega) (by omega)), G'⟩
    · simp (disch := omega) only [Option.bind_some, xI, xU, xUt, xIt, J_lit, J_add, J_sub, J_mul, J_neg, J_ltc, J_lec, J_eqc, lt_T, lt_F, le_T, le_F, eq_T, eq_F, ↓reduceIte, ite_not, not_true_eq_false, not_false_eq_true, true_or, or_true, false_or, or_false, true_and, and_true, false_and, and_false, up_get, Nat.reduceEqDiff, Int.reduceNeg, eqN_T, eqN_F]
      exact D
    · unfold haB nuA
      rw [if_neg k]
      rw [show min (v (51 + 7 * (30 * gi + x) + 1) + 0) 9999 = v (51 + 7 * (30 * gi + x) + 1) by omega] at C'
      exact C'
theorem haA_o {i : Int} (W : Wok w) (t0 : 0 ≤ ta) (t1 : ta < w 0) (h : i ≠ 1 + 5 * ta + 4) (h2 : ∀ y : Int, 0 ≤ y → i ≠ 51 + 7 * (30 * ta + y) + 0) : haA w v g ta i = v i := by
  have rm := W.1.2.2 ta t0 t1
  unfold haA
  split
  · rename_i c
    have := lsO_ex (w := w) (v := v) (g := g) (p := ta) 30 (by omega)
    unfold gvS loS
    rw [ups_ne h, ups_ne (h2 _ this)]
  · rfl
theorem haA_t (W : Wok w) (t0 : 0 ≤ ta) (t1 : ta < w 0) (x0 : 0 ≤ x) (ht : v (51 + 7 * (30 * ta + x) + 0) = 0) : haA w v g ta (51 + 7 * (30 * ta + x) + 0) = 0 := by
  have tw := W.1.2.1
  have rm := W.1.2.2 ta t0 t1
  unfold haA
  split
  · rename_i c
    unfold gvS loS
    rw [ups_ne (by omega)]
    by_cases e : 51 + 7 * (30 * ta + x) + 0 = 51 + 7 * (30 * ta + (lsO w v g ta 30).1) + 0
    · rw [e, ups_at]
    · rw [ups_ne e, ht]
  · exact ht
/-- what the taker has given away in this meeting -/
def drS (w v g : Int → Int) (ta : Int) (d : Nat) : Nat := if w (11 + 3 * ta + 1) ≤ cntw v ta 30 then d ||| 2 ^ (lsO w v g ta 30).1.toNat else d
theorem q_handC (C : CX S m q a r told w v g) (g0 : 0 ≤ gi) (g1 : gi < w 0) (t0 : 0 ≤ ta) (t1 : ta < w 0) (x0 : 0 ≤ x) (x1 : x < told) (hg : v (51 + 7 * (30 * gi + x) + 0) = 1) (ht : v (51 + 7 * (30 * ta + x) + 0) = 0) (h12 : v (51 + 7 * (30 * gi + x) + 2) < 12) (ct : 0 < v (1 + 5 * ta + 1)) {d : Nat} (hd : m (a + 21) ta = d) : ∃ m' q', De (fun n => f_X1_hand n 0 [.ref a, .int (J gi), .int (J ta), .int (J x)] (hp S m q)) (.inl none) (hp S m' q') ∧ CX S m' q' a r told w (haS w v g gi ta x) g ∧ (∀ b i, (b < a ∨ a + 22 ≤ b) → b ≠ r + 5 → ¬ (b = r ∧ i = 7) → m' b i = m b i) ∧ (∀ b, b ≠ a + 15 → b ≠ a + 20 → q' b = q b) ∧ m' (a + 21) ta = (drS w v g ta d : Nat) ∧ ∀ i, i ≠ ta → m' (a + 21) i = m (a + 21) i := by
  obtain ⟨⟨hs, hn, hr, r16, a46⟩, W, WC, NC, R⟩ := id C
  have tw := W.1.2.1
  have w1 := W.2.1
  have n1 := NC.1
  have ne : gi ≠ ta := fun e => by
    rw [e] at hg
    omega
  have Df := d_isFull C t0 t1
  have eg : ∀ k : Int, 0 ≤ k → k < 7 → haA w v g ta (51 + 7 * (30 * gi + x) + k) = v (51 + 7 * (30 * gi + x) + k) := fun k k0 k1 => by
    by_cases f : w (11 + 3 * ta + 1) ≤ cntw v ta 30
    · have L := lsO_in (w := w) (v := v) (p := ta) R 30
      have rm := W.1.2.2 ta t0 t1
      have ex := lsO_ex (w := w) (v := v) (g := g) (p := ta) 30 (by omega)
      unfold haA
      rw [if_pos f]
      exact gvS_o t0 (by omega) ex L.2.1 g0 (by omega) x0 (by omega) k0 k1 (by omega)
    · unfold haA
      rw [if_neg f]
  have ec : haA w v g ta (1 + 5 * ta + 1) = v (1 + 5 * ta + 1) := haA_o W t0 t1 (by omega) (fun y y0 => by omega)
  have et := haA_t (g := g) W t0 t1 x0 ht
  by_cases f : w (11 + 3 * ta + 1) ≤ cntw v ta 30
  · obtain ⟨m1, m2, D1, D2, C2, F2, P1, P2, L0, L1, L2⟩ := q_gaveC C t0 t1 f
    have eA : gvS v ta (lsO w v g ta 30).1 = haA w v g ta := (if_pos f).symm
    rw [eA] at C2
    obtain ⟨m', q', D, C', F', G'⟩ := q_hand18 C2 g0 g1 t0 t1 x0 x1 (by rw [eg 0 (by decide) (by decide)]; exact hg) et (by rw [eg 2 (by decide) (by decide)]; exact h12) (by rw [ec]; exact ct)
    rw [if_pos f] at Df
    refine ⟨m', q', ?_, C', fun b i h1 h2 h3 => (F' b i (by omega)).trans (F2 b i (by omega) (by omega) (by omega) (by omega) (by omega) h2 h3), G', ?_, fun i hi => (F' _ i (by omega)).trans (P2 i hi)⟩
    · refine De.step ?_
      simp only [j_X1_hand_0]
      simp (disch := omega) only [b_X1_hand_0, Net0_k hn, Option.bind_some]
      refine De.call Df ?_
      simp (disch := omega) only [Net0_k hn, Option.bind_some, xI, xU, xUt, xIt, J_lit, J_add, J_sub, J_mul, J_neg, J_ltc, J_lec, J_eqc, lt_T, lt_F, le_T, le_F, eq_T, eq_F, ↓reduceIte, ite_not, not_true_eq_false, not_false_eq_true, true_or, or_true, false_or, or_false, true_and, and_true, false_and, and_false, up_get, Nat.reduceEqDiff, Int.reduceNeg, eqN_T, eqN_F]
      refine De.call D1 ?_
      simp (disch := omega) only [Net0_k hn, Option.bind_some, xI, xU, xUt, xIt, J_lit, J_add, J_sub, J_mul, J_neg, J_ltc, J_lec, J_eqc, lt_T, lt_F, le_T, le_F, eq_T, eq_F, ↓reduceIte, ite_not, not_true_eq_false, not_false_eq_true, true_or, or_true, false_or, or_false, true_and, and_true, false_and, and_false, up_get, Nat.reduceEqDiff, Int.reduceNeg, eqN_T, eqN_F]
      refine De.call D2 ?_
      simp only [xU]
      exact D
    · rw [F' _ _ (by omega), P1 (by omega), hd]
      unfold drS
      rw [if_pos f, Int.toNat_natCast]
  · have eA : v = haA w v g ta := (if_neg f).symm
    obtain ⟨m', q', D, C', F', G'⟩ := q_hand18 C g0 g1 t0 t1 x0 x1 hg ht h12 ct
    rw [if_neg f] at Df
    refine ⟨m', q', ?_, ?_, fun b i h1 h2 h3 => F' b i (by omega), G', ?_, fun i hi => F' _ i (by omega)⟩
    · refine De.step ?_
      simp only [j_X1_hand_0]
      simp (disch := omega) only [b_X1_hand_0, Net0_k hn, Option.bind_some]
      refine De.call Df ?_
      simp (disch := omega) only [Option.bind_some, xI, xU, xUt, xIt, J_lit, J_add, J_sub, J_mul, J_neg, J_ltc, J_lec, J_eqc, lt_T, lt_F, le_T, le_F, eq_T, eq_F, ↓reduceIte, ite_not, not_true_eq_false, not_false_eq_true, true_or, or_true, false_or, or_false, true_and, and_true, false_and, and_false, up_get, Nat.reduceEqDiff, Int.reduceNeg, eqN_T, eqN_F]
      exact D
    · unfold haS
      rw [← eA]
      exact C'
    · rw [F' _ _ (by omega), hd]
      unfold drS
      rw [if_neg f]
end HANDC
