/-! a word is told, by the class and by the reference -/
section VOK
variable {told p x z : Int} {w v v' : Int → Int}
theorem Vok.hi (V : Vok told w v) (hw : w 0 ≤ 10) (e : ∀ i, i < 2151 → v' i = v i) : Vok told w v' := by
  obtain ⟨h1, h2, h3⟩ := V
  refine ⟨by rw [e 0 (by omega)]; exact h1, fun p a b => ?_, fun p x a b c d => ?_⟩
  · rw [e _ (by omega), e _ (by omega)]
    exact h2 p a b
  · rw [e _ (by omega), e _ (by omega), e _ (by omega)]
    exact h3 p x a b c d
theorem Vok.lo (V : Vok told w v) (hw : w 0 ≤ 10) (p0 : 0 ≤ p) (p1 : p < 10) (x0 : 0 ≤ x) (x1 : x < 30) : Vok told w (loS v p x) := by
  obtain ⟨h1, h2, h3⟩ := V
  unfold loS
  refine ⟨by rw [ups_ne (by omega)]; exact h1, fun p a b => ?_, fun p' x' a b c d => ?_⟩
  · rw [ups_ne (by omega), ups_ne (by omega)]
    exact h2 p a b
  · rw [ups_ne (show 51 + 7 * (30 * p' + x') + 1 ≠ 51 + 7 * (30 * p + x) + 0 by omega), ups_ne (show 51 + 7 * (30 * p' + x') + 2 ≠ 51 + 7 * (30 * p + x) + 0 by omega)]
    by_cases e : 51 + 7 * (30 * p' + x') + 0 = 51 + 7 * (30 * p + x) + 0
    · rw [e, ups_at]
      exact ⟨⟨by decide, by decide⟩, fun q => absurd q (by decide)⟩
    · rw [ups_ne e]
      exact h3 p' x' a b c d
theorem Vok.st (V : Vok told w v) (hw : w 0 ≤ 10) (p0 : 0 ≤ p) (p1 : p < 10) {k : Int} (k0 : 2 ≤ k) (k1 : k ≤ 4) : Vok told w (ups v (1 + 5 * p + k) z) := by
  obtain ⟨h1, h2, h3⟩ := V
  refine ⟨by rw [ups_ne (by omega)]; exact h1, fun p a b => ?_, fun p' x' a b c d => ?_⟩
  · rw [ups_ne (by omega), ups_ne (by omega)]
    exact h2 p a b
  · rw [ups_ne (by omega), ups_ne (by omega), ups_ne (by omega)]
    exact h3 p' x' a b c d
theorem Vok.gv (V : Vok told w v) (hw : w 0 ≤ 10) (p0 : 0 ≤ p) (p1 : p < 10) (x0 : 0 ≤ x) (x1 : x < 30) : Vok told w (gvS v p x) := (V.lo hw p0 p1 x0 x1).st hw p0 p1 (by decide) (by decide)
theorem Vok.tell (V : Vok told w v) (h : told < w 1) : Vok (told + 1) w v := by
  obtain ⟨h1, h2, h3⟩ := V
  refine ⟨by omega, h2, fun p x a b c d => ⟨(h3 p x a b c d).1, fun q => ?_⟩⟩
  obtain ⟨y1, y2⟩ := (h3 p x a b c d).2 q
  exact ⟨⟨y1.1, by omega⟩, y2⟩
theorem Vok.un (V : Vok told w v) (W : Wok w) (p0 : 0 ≤ p) (p1 : p < 10) (x0 : 0 ≤ x) (x1 : x < w 1) : Vok told w (unS w v p x) := by
  have w1 := W.2.1
  have u := (W.2.2 x x0 x1).2.2
  unfold unS
  split
  · exact V.lo W.1.2.1 p0 p1 (by omega) (by omega)
  · exact V
end VOK
def t1S (w v : Int → Int) (x : Int) : Int → Int := unS w (ups v (2151 + 5 * x + 0) (-1)) (w (761 + 10 * x + 1)) x
def t2S (w v g : Int → Int) (x : Int) : Int → Int := if w (11 + 3 * w (761 + 10 * x + 1) + 1) ≤ cntw (t1S w v x) (w (761 + 10 * x + 1)) 30 then gvS (t1S w v x) (w (761 + 10 * x + 1)) (lsO w (t1S w v x) g (w (761 + 10 * x + 1)) 30).1 else t1S w v x
def tlS (w v g : Int → Int) (x : Int) : Int → Int := cmS (t2S w v g x) (w (761 + 10 * x + 1)) x (w (761 + 10 * x + 7)) 0 (-1) 0 0
section TELLC
variable {S : xH} {m m' m0 : Nat → Int → Int} {q q' : Nat → Int → Int64} {a r : Nat} {told p x y nu ho fr wy mo gi ln sp : Int} {w v v' g kd nm bg so : Int → Int}
theorem q_loseU (C : CX S m q a r told w v g) (p0 : 0 ≤ p) (p1 : p < w 0) (x0 : 0 ≤ x) (x1 : x < told) : ∃ m', De (fun n => f_X1_lose n 0 [.ref a, .int (J p), .int (J (w (761 + 10 * x + 8)))] (hp S m q)) (.inl none) (hp S m' q) ∧ CX S m' q a r told w (unS w v p x) g ∧ ∀ b i, b ≠ a + 4 → b ≠ a + 16 → b ≠ a + 17 → m' b i = m b i := by
  obtain ⟨⟨hs, hn, hr, r16, a46⟩, W, WC, NC, R⟩ := id C
  have t0 := NC.1
  have u := (W.2.2 x x0 (by omega)).2.2
  unfold unS
  by_cases c : 0 ≤ w (761 + 10 * x + 8)
  · rw [if_pos c]
    obtain ⟨m', E, N, F⟩ := q_lose hn W NC p0 p1 (x := w (761 + 10 * x + 8)) c (by omega)
    exact ⟨m', De.eq 2 E, C.net (fun b i hb => F b i (by omega) (by omega) (by omega)) N, F⟩
  · rw [if_neg c, show w (761 + 10 * x + 8) = -1 by omega]
    exact ⟨m, De.eq 1 (fun n => e_lose_no p n _), C, fun _ _ _ _ _ => rfl⟩
theorem d_isFull (C : CX S m q a r told w v g) (p0 : 0 ≤ p) (p1 : p < w 0) : De (fun n => f_X1_isFull n 0 [.ref a, .int (J p)] (hp S m q)) (.inl (some (.int (J (if w (11 + 3 * p + 1) ≤ cntw v p 30 then 1 else 0))))) (hp S m q) := De.eq 1 (fun n => e_isFull C.1.2.1 C.2.1 C.2.2.2.1 p0 p1 n)
/-- the least goes -/
theorem q_gaveC (C : CX S m q a r told w v g) (p0 : 0 ≤ p) (p1 : p < w 0) (hf : w (11 + 3 * p + 1) ≤ cntw v p 30) : ∃ m1 m2, De (fun n => f_X1_leastOn n 0 [.ref a, .int (J p)] (hp S m q)) (.inl (some (.int (J (lsO w v g p 30).1)))) (hp S m1 q) ∧ De (fun n => f_X1_giveAway n 0 [.ref a, .int (J p), .int (J (lsO w v g p 30).1)] (hp S m1 q)) (.inl none) (hp S m2 q) ∧ CX S m2 q a r told w (gvS v p (lsO w v g p 30).1) g ∧ (∀ b i, b ≠ a + 4 → b ≠ a + 16 → b ≠ a + 17 → b ≠ a + 21 → b ≠ a + 9 → b ≠ r + 5 → ¬ (b = r ∧ i = 7) → m2 b i = m b i) ∧ (0 ≤ m (a + 21) p → m2 (a + 21) p = (((m (a + 21) p).toNat ||| 2 ^ (lsO w v g p 30).1.toNat : Nat) : Int)) ∧ (∀ i, i ≠ p → m2 (a + 21) i = m (a + 21) i) ∧ 0 ≤ (lsO w v g p 30).1 ∧ (lsO w v g p 30).1 < told ∧ v (51 + 7 * (30 * p + (lsO w v g p 30).1) + 0) = 1 := by
  obtain ⟨m1, D1, F1⟩ := q_leastC C p0 p1
  have C1 := C.fr F1
  obtain ⟨⟨hs, hn, hr, r16, a46⟩, W, WC, NC, R⟩ := id C1
  have L := lsO_in (w := w) (v := v) (p := p) R 30
  have rm := W.1.2.2 p p0 p1
  have tw := W.1.2.1
  have ex := lsO_ex (w := w) (v := v) (g := g) (p := p) 30 (by omega)
  have hh := L.2.2.2.2 ex
  have lt := ((NC.vok.2.2 p _ p0 (by omega) ex L.2.1).2 hh).1.2
  obtain ⟨m2, D2, N2, F2, G1, G2⟩ := q_give hn W NC p0 p1 ex lt
  have d : ∀ i, m1 (a + 21) i = m (a + 21) i := fun i => F1 _ _ (by omega) (by omega)
  refine ⟨m1, m2, D1, D2, C1.net (fun b i hb => F2 b i (by omega) (by omega) (by omega) (by omega) (by omega)) N2, fun b i h1 h2 h3 h4 h5 h6 h7 => (F2 b i h1 h2 h3 h4 h5).trans (F1 b i h6 h7), fun z => ?_, fun i hi => (G2 i hi).trans (d i), ex, lt, hh⟩
  rw [G1 (by rw [d]; exact z), d]
theorem unS_o {i : Int} (h : i < 51 ∨ 2151 ≤ i) (W : Wok w) (p0 : 0 ≤ p) (p1 : p < 10) (x0 : 0 ≤ x) (x1 : x < w 1) : unS w v p x i = v i := by
  have w1 := W.2.1
  have u := (W.2.2 x x0 x1).2.2
  unfold unS
  split
  · exact ups_ne (by omega)
  · rfl
theorem unS_x {y : Int} {p' : Int} (W : Wok w) (p0 : 0 ≤ p) (p1 : p < 10) (x0 : 0 ≤ x) (x1 : x < w 1) (p'0 : 0 ≤ p') (p'1 : p' < 10) (y0 : x ≤ y) (y1 : y < 30) {k : Int} (k0 : 0 ≤ k) (k1 : k < 7) : unS w v p x (51 + 7 * (30 * p' + y) + k) = v (51 + 7 * (30 * p' + y) + k) := by
  have w1 := W.2.1
  have u := (W.2.2 x x0 x1).2.2
  unfold unS
  split
  · exact ups_ne (by omega)
  · rfl
theorem gvS_o {p' y : Int} (p0 : 0 ≤ p) (p1 : p < 10) (x0 : 0 ≤ x) (x1 : x < 30) (p'0 : 0 ≤ p') (p'1 : p' < 10) (y0 : 0 ≤ y) (y1 : y < 30) {k : Int} (k0 : 0 ≤ k) (k1 : k < 7) (h : k ≠ 0 ∨ p' ≠ p ∨ y ≠ x) : gvS v p x (51 + 7 * (30 * p' + y) + k) = v (51 + 7 * (30 * p' + y) + k) := by
  unfold gvS loS
  rw [ups_ne (by omega), ups_ne (by omega)]
theorem q_tellC (C : CX S m q a r told w v g) (ht : told < w 1) : ∃ m' q', De (fun n => f_X1_tellNext n 0 [.ref a] (hp S m q)) (.inl none) (hp S m' q') ∧ CX S m' q' a r (told + 1) w (tlS w v g told) g ∧ (∀ b i, (b < a ∨ a + 22 ≤ b) → b ≠ r + 5 → ¬ (b = r ∧ i = 7) → m' b i = m b i) ∧ ∀ b, b ≠ a + 15 → b ≠ a + 20 → q' b = q b := by
  obtain ⟨⟨hs, hn, hr, r16, a46⟩, W, WC, NC, R⟩ := id C
  have t0 := NC.1
  have tw := W.1.2.1
  have w1 := W.2.1
  have wx := W.2.2 told (by omega) ht
  obtain ⟨f0, f1, f2, f3, f7, f8⟩ := WC.2.1 told (by omega) ht
  have sz := WC.1
  have tl : m a 4 = told := t0.2.2.1
  have VK := NC.vok
  have N0 : NetC (up m a 4 (told + 1)) q a (told + 1) w (ups v (2151 + 5 * told + 0) (-1)) := by
    refine Rnet.tell NC ⟨W.1.1, tw⟩ w1.2 ht ⟨?_, ?_, ?_⟩ (fun o i i0 h => ?_) (fun i hi => ups_ne (by omega)) (by rw [Int.add_zero, ups_at])
    · show up _ _ _ _ (a + 0) 2 = m (a + 0) 2
      rw [Nat.add_zero, up_i (by decide)]
    · show up _ _ _ _ (a + 0) 3 = m (a + 0) 3
      rw [Nat.add_zero, up_i (by decide)]
    · show up _ _ _ _ (a + 0) 4 = _
      rw [Nat.add_zero, up_at]
    · show up _ _ _ _ (a + o) i = m (a + o) i
      rw [up_a (by omega)]
  have C0 : CX S (up m a 4 (told + 1)) q a r (told + 1) w (ups v (2151 + 5 * told + 0) (-1)) g := ⟨⟨hs, hn, hr, r16, a46⟩, W, WC.cg (fun b i b0 b1 => up_a (by omega)), N0, R.cg (up_a (by omega)) (up_a (by omega)) (fun b i b0 b1 => up_a (by omega))⟩
  obtain ⟨m1, D1, C1, F1⟩ := q_loseU (p := w (761 + 10 * told + 1)) (x := told) C0 (by omega) (by omega) (by omega) (by omega)
  have Df := d_isFull (p := w (761 + 10 * told + 1)) C1 (by omega) (by omega)
  have hz1 : t1S w v told (51 + 7 * (30 * w (761 + 10 * told + 1) + told) + 0) = 0 := by
    unfold t1S
    rw [unS_x W (by omega) (by omega) (by omega) ht (by omega) (by omega) (Int.le_refl _) (by omega) (by decide) (by decide), ups_ne (by omega)]
    have h := VK.2.2 (w (761 + 10 * told + 1)) told (by omega) (by omega) (by omega) (by omega)
    by_cases c : v (51 + 7 * (30 * w (761 + 10 * told + 1) + told) + 0) = 1
    · have := (h.2 c).1
      omega
    · omega
  have e1 : unS w (ups v (2151 + 5 * told + 0) (-1)) (w (761 + 10 * told + 1)) told = t1S w v told := rfl
  rw [e1] at Df C1
  have f1' : m 19 told = w (761 + 10 * told + 1) := f1
  by_cases c : w (11 + 3 * w (761 + 10 * told + 1) + 1) ≤ cntw (t1S w v told) (w (761 + 10 * told + 1)) 30
  · obtain ⟨m2, m3, D2, D3, C3, F3, -, -, L0, L1, L2⟩ := q_gaveC C1 (by omega) (by omega) c
    have hz3 : gvS (t1S w v told) (w (761 + 10 * told + 1)) (lsO w (t1S w v told) g (w (761 + 10 * told + 1)) 30).1 (51 + 7 * (30 * w (761 + 10 * told + 1) + told) + 0) = 0 := by
      by_cases z : (lsO w (t1S w v told) g (w (761 + 10 * told + 1)) 30).1 = told
      · rw [z] at L2
        omega
      · rw [gvS_o (by omega) (by omega) L0 (by omega) (by omega) (by omega) (by omega) (by omega) (by decide) (by decide) (by omega)]
        exact hz1
    obtain ⟨m4, q4, D4, C4, F4, G4⟩ := q_put0 (nu := w (761 + 10 * told + 7)) C3 (by omega) (by omega) (by omega) (by omega) hz3 (by omega) (by omega)
    have e25 : m3 25 told = w (761 + 10 * told + 7) := (C3.2.2.1.2.1 told (by omega) ht).2.2.2.2.1
    rw [if_pos c] at Df
    refine ⟨m4, q4, ?_, ?_, fun b i h1 h2 h3 => ?_, G4⟩
    · refine De.step ?_
      simp only [j_X1_tellNext_0]
      simp (disch := omega) only [b_X1_tellNext_0, Net0_i4 hn, Net0_r0 hn, Net0_w4 hn, Net0_k hn, x16_k hs, x16_r0 hs, x16_r1 hs, x16_r2 hs, x16_i3 hs, x16_w3 hs, x17_m0 hs, x17_m1 hs, x17_m2 hs, x17_m3 hs, x17_m4 hs, x17_m5 hs, x17_m6 hs, x17_m7 hs, x17_m8 hs, x17_l hs, x19_g hs, x19_s hs, x19_l hs, x26_g hs, x26_s hs, x26_l hs, sz, tl, f1', f8, up_a, ne_eq, Option.bind_some, xI, xU, xUt, xIt, J_lit, J_add, J_sub, J_mul, J_neg, J_ltc, J_lec, J_eqc, lt_T, lt_F, le_T, le_F, eq_T, eq_F, ↓reduceIte, ite_not, not_true_eq_false, not_false_eq_true, true_or, or_true, false_or, or_false, true_and, and_true, false_and, and_false, up_get, Nat.reduceEqDiff, Int.reduceNeg, eqN_T, eqN_F]
      refine De.call D1 ?_
      simp (disch := omega) only [xU, Net0_k hn, Option.bind_some, xI, xU, xUt, xIt, J_lit, J_add, J_sub, J_mul, J_neg, J_ltc, J_lec, J_eqc, lt_T, lt_F, le_T, le_F, eq_T, eq_F, ↓reduceIte, ite_not, not_true_eq_false, not_false_eq_true, true_or, or_true, false_or, or_false, true_and, and_true, false_and, and_false, up_get, Nat.reduceEqDiff, Int.reduceNeg, eqN_T, eqN_F]
      refine De.call Df ?_
      simp (disch := omega) only [Net0_k hn, Option.bind_some, xI, xU, xUt, xIt, J_lit, J_add, J_sub, J_mul, J_neg, J_ltc, J_lec, J_eqc, lt_T, lt_F, le_T, le_F, eq_T, eq_F, ↓reduceIte, ite_not, not_true_eq_false, not_false_eq_true, true_or, or_true, false_or, or_false, true_and, and_true, false_and, and_false, up_get, Nat.reduceEqDiff, Int.reduceNeg, eqN_T, eqN_F]
      refine De.call D2 ?_
      simp (disch := omega) only [Net0_k hn, Option.bind_some, xI, xU, xUt, xIt, J_lit, J_add, J_sub, J_mul, J_neg, J_ltc, J_lec, J_eqc, lt_T, lt_F, le_T, le_F, eq_T, eq_F, ↓reduceIte, ite_not, not_true_eq_false, not_false_eq_true, true_or, or_true, false_or, or_false, true_and, and_true, false_and, and_false, up_get, Nat.reduceEqDiff, Int.reduceNeg, eqN_T, eqN_F]
      refine De.call D3 ?_
      simp only [xU]
      refine De.step ?_
      simp only [j_X1_tellNext_74]
      simp (disch := omega) only [b_X1_tellNext_74, Net0_r0 hn, Net0_k hn, x16_k hs, x16_r0 hs, x16_r1 hs, x16_r2 hs, x16_i3 hs, x16_w3 hs, x17_m0 hs, x17_m1 hs, x17_m2 hs, x17_m3 hs, x17_m4 hs, x17_m5 hs, x17_m6 hs, x17_m7 hs, x17_m8 hs, x17_l hs, x25_g hs, x25_s hs, x25_l hs, e25, Option.bind_some, xI, xU, xUt, xIt, J_lit, J_add, J_sub, J_mul, J_neg, J_ltc, J_lec, J_eqc, lt_T, lt_F, le_T, le_F, eq_T, eq_F, ↓reduceIte, ite_not, not_true_eq_false, not_false_eq_true, true_or, or_true, false_or, or_false, true_and, and_true, false_and, and_false, up_get, Nat.reduceEqDiff, Int.reduceNeg, eqN_T, eqN_F]
      refine De.call D4 ?_
      simp only [xU]
      exact De.ret _ _
    · unfold tlS t2S
      rw [if_pos c]
      exact C4
    · rw [F4 b i (by omega), F3 b i (by omega) (by omega) (by omega) (by omega) (by omega) h2 h3, F1 b i (by omega) (by omega) (by omega), up_a (by omega)]
  · obtain ⟨m4, q4, D4, C4, F4, G4⟩ := q_put0 (nu := w (761 + 10 * told + 7)) C1 (by omega) (by omega) (by omega) (by omega) hz1 (by omega) (by omega)
    have e25 : m1 25 told = w (761 + 10 * told + 7) := (C1.2.2.1.2.1 told (by omega) ht).2.2.2.2.1
    rw [if_neg c] at Df
    refine ⟨m4, q4, ?_, ?_, fun b i h1 h2 h3 => ?_, G4⟩
    · refine De.step ?_
      simp only [j_X1_tellNext_0]
      simp (disch := omega) only [b_X1_tellNext_0, Net0_i4 hn, Net0_r0 hn, Net0_w4 hn, Net0_k hn, x16_k hs, x16_r0 hs, x16_r1 hs, x16_r2 hs, x16_i3 hs, x16_w3 hs, x17_m0 hs, x17_m1 hs, x17_m2 hs, x17_m3 hs, x17_m4 hs, x17_m5 hs, x17_m6 hs, x17_m7 hs, x17_m8 hs, x17_l hs, x19_g hs, x19_s hs, x19_l hs, x26_g hs, x26_s hs, x26_l hs, sz, tl, f1', f8, up_a, ne_eq, Option.bind_some, xI, xU, xUt, xIt, J_lit, J_add, J_sub, J_mul, J_neg, J_ltc, J_lec, J_eqc, lt_T, lt_F, le_T, le_F, eq_T, eq_F, ↓reduceIte, ite_not, not_true_eq_false, not_false_eq_true, true_or, or_true, false_or, or_false, true_and, and_true, false_and, and_false, up_get, Nat.reduceEqDiff, Int.reduceNeg, eqN_T, eqN_F]
      refine De.call D1 ?_
      simp (disch := omega) only [xU, Net0_k hn, Option.bind_some, xI, xU, xUt, xIt, J_lit, J_add, J_sub, J_mul, J_neg, J_ltc, J_lec, J_eqc, lt_T, lt_F, le_T, le_F, eq_T, eq_F, ↓reduceIte, ite_not, not_true_eq_false, not_false_eq_true, true_or, or_true, false_or, or_false, true_and, and_true, false_and, and_false, up_get, Nat.reduceEqDiff, Int.reduceNeg, eqN_T, eqN_F]
      refine De.call Df ?_
      simp (disch := omega) only [Option.bind_some, xI, xU, xUt, xIt, J_lit, J_add, J_sub, J_mul, J_neg, J_ltc, J_lec, J_eqc, lt_T, lt_F, le_T, le_F, eq_T, eq_F, ↓reduceIte, ite_not, not_true_eq_false, not_false_eq_true, true_or, or_true, false_or, or_false, true_and, and_true, false_and, and_false, up_get, Nat.reduceEqDiff, Int.reduceNeg, eqN_T, eqN_F]
      refine De.step ?_
      simp only [j_X1_tellNext_74]
      simp (disch := omega) only [b_X1_tellNext_74, Net0_r0 hn, Net0_k hn, x16_k hs, x16_r0 hs, x16_r1 hs, x16_r2 hs, x16_i3 hs, x16_w3 hs, x17_m0 hs, x17_m1 hs, x17_m2 hs, x17_m3 hs, x17_m4 hs, x17_m5 hs, x17_m6 hs, x17_m7 hs, x17_m8 hs, x17_l hs, x25_g hs, x25_s hs, x25_l hs, e25, Option.bind_some, xI, xU, xUt, xIt, J_lit, J_add, J_sub, J_mul, J_neg, J_ltc, J_lec, J_eqc, lt_T, lt_F, le_T, le_F, eq_T, eq_F, ↓reduceIte, ite_not, not_true_eq_false, not_false_eq_true, true_or, or_true, false_or, or_false, true_and, and_true, false_and, and_false, up_get, Nat.reduceEqDiff, Int.reduceNeg, eqN_T, eqN_F]
      refine De.call D4 ?_
      simp only [xU]
      exact De.ret _ _
    · unfold tlS t2S
      rw [if_neg c]
      exact C4
    · rw [F4 b i (by omega), F1 b i (by omega) (by omega) (by omega), up_a (by omega)]
end TELLC
