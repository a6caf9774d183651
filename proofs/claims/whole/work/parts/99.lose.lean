/-! a copy is lost, given away; a phone is full -/
def loS (v : Int → Int) (p x : Int) : Int → Int := ups v (51 + 7 * (30 * p + x) + 0) 0
def gvS (v : Int → Int) (p x : Int) : Int → Int := ups (loS v p x) (1 + 5 * p + 4) (v (1 + 5 * p + 4) + 1)
section LOSE
variable {S : xH} {m : Nat → Int → Int} {q : Nat → Int → Int64} {a r : Nat} {told p x : Int} {w v g : Int → Int}
theorem NetC.on (NC : NetC m q a told w v) (p0 : 0 ≤ p) (p1 : p < 10) (x0 : 0 ≤ x) (x1 : x < 30) : (0 ≤ m (a + 16) p ∧ m (a + 16) p < 1073741824) ∧ v (51 + 7 * (30 * p + x) + 0) = if (m (a + 16) p).toNat.testBit x.toNat = true then 1 else 0 :=
  ⟨⟨(NC.2.2.1 p p0 p1).2.1, (NC.2.2.1 p p0 p1).2.2.1⟩, (NC.2.2.2.1 p x p0 p1 x0 x1).1⟩
theorem e_car (hn : NetS S a 16 r) (NC : NetC m q a told w v) (p0 : 0 ≤ p) (p1 : p < 10) (x0 : 0 ≤ x) (x1 : x < 30) (n : Nat) : f_X1_carries (n + 1) 0 [.ref a, .int (J p), .int (J x)] (hp S m q) = some (.inl (some (.int (J (if v (51 + 7 * (30 * p + x) + 0) = 1 then 1 else 0)))), hp S m q) := by
  obtain ⟨⟨o0, o1⟩, o2⟩ := NC.on p0 p1 x0 x1
  rw [e_carries hn p0 p1 x0 x1 o0 o1, o2]
  cases (m (a + 16) p).toNat.testBit x.toNat <;> rfl
theorem q_lose (hn : NetS S a 16 r) (W : Wok w) (NC : NetC m q a told w v) (p0 : 0 ≤ p) (p1 : p < w 0) (x0 : 0 ≤ x) (x1 : x < told) : ∃ m', (∀ n, f_X1_lose (n + 2) 0 [.ref a, .int (J p), .int (J x)] (hp S m q) = some (.inl none, hp S m' q)) ∧ NetC m' q a told w (loS v p x) ∧ ∀ b i, b ≠ a + 4 → b ≠ a + 16 → b ≠ a + 17 → m' b i = m b i := by
  have tw := W.1.2.1
  have t0 := NC.1
  have w1 := W.2.1
  have CR := fun n => e_car (S := S) (r := r) hn NC p0 (by omega) x0 (by omega) n
  obtain ⟨⟨o0, o1⟩, o2⟩ := NC.on (p := p) (x := x) p0 (by omega) x0 (by omega)
  by_cases h : v (51 + 7 * (30 * p + x) + 0) = 1
  · have hb : (m (a + 16) p).toNat.testBit x.toNat = true := by
      by_cases z : (m (a + 16) p).toNat.testBit x.toNat = true
      · exact z
      · rw [if_neg z] at o2; omega
    have cl := J_clr1 (z := m (a + 16) p) (p := x) o0 x0 (by omega) hb
    have s4 := (NC.2.2.1 p p0 (by omega)).1
    have s17 := (NC.2.2.2.2.1 x x0 (by omega)).1
    simp only [h, if_true] at CR
    have xl := xor_lt (n := (m (a + 16) p).toNat) (k := x.toNat) (b := 30) (by omega) (by omega)
    refine ⟨up (up (up m (a + 16) p (((m (a + 16) p).toNat ^^^ 2 ^ x.toNat : Nat) : Int)) (a + 4) p (m (a + 4) p - 1)) (a + 17) x (m (a + 17) x - 1), fun n => ?_, ?_, fun b i h1 h2 h3 => by rw [up_a h3, up_a h1, up_a h2]⟩
    · rw [j_X1_lose_0]
      simp (disch := omega) only [b_X1_lose_0, Net0_k hn, CR, Net0_r8 hn, Net16_g hn, Net16_s hn, Net0_r5 hn, Net1_m2 hn, Net4_g hn, Net4_s hn, Net0_r9 hn, Net17_g hn, Net17_s hn, cl, up_a, ne_eq, Option.bind_some, xI, xU, xUt, xIt, J_lit, J_add, J_sub, J_mul, J_neg, J_ltc, J_lec, J_eqc, lt_T, lt_F, le_T, le_F, eq_T, eq_F, ↓reduceIte, ite_not, not_true_eq_false, not_false_eq_true, true_or, or_true, false_or, or_false, true_and, and_true, false_and, and_false, up_get, Nat.reduceEqDiff, Int.reduceNeg, eqN_T, eqN_F]
    · have tx := fun i => tb_xor (m (a + 16) p).toNat x.toNat i
      have lv : loS v p x (51 + 7 * (30 * p + x) + 0) = 0 := ups_at _ _ _
      have e16 : up (up (up m (a + 16) p (((m (a + 16) p).toNat ^^^ 2 ^ x.toNat : Nat) : Int)) (a + 4) p (m (a + 4) p - 1)) (a + 17) x (m (a + 17) x - 1) (a + 16) p = (((m (a + 16) p).toNat ^^^ 2 ^ x.toNat : Nat) : Int) := by rw [up_a (by omega), up_a (by omega), up_at]
      refine Rnet.copy NC ⟨W.1.1, tw⟩ w1.2 p0 p1 x0 x1 (fun i i0 i1 => ?_) (fun o i i0 i1 o0 o1 o2 => ?_) (fun o i i0 i1 o0 o1 => ?_) (fun i i0 i1 => rfl) (fun o i i0 i1 i2 o0 o1 => ?_) (fun i i0 i1 i2 => rfl) (fun i i0 i1 i2 => ?_) ⟨?_, ?_, fun y y0 y1 y2 => ?_⟩ ?_ (fun i i0 i1 => ?_) (fun i i0 i1 => ?_) (fun i hi => ups_ne (by omega)) (fun z => absurd (lv.symm.trans z) (by decide))
      · show up _ _ _ _ (a + 0) i = m (a + 0) i
        rw [up_a (by omega), up_a (by omega), up_a (by omega)]
      · show up _ _ _ _ (a + o) i = m (a + o) i
        rw [up_a (by omega), up_a (by omega), up_a (by omega)]
      · show up _ _ _ _ (a + o) i = m (a + o) i
        rw [up_a (by omega), up_a (by omega), up_a (by omega)]
      · show up _ _ _ _ (a + o) i = m (a + o) i
        rw [up_a (by omega), up_a (by omega), up_a (by omega)]
      · show up _ _ _ _ (a + 16) i = m (a + 16) i
        rw [up_a (by omega), up_a (by omega), up_i i2]
      · show 0 ≤ up _ _ _ _ (a + 16) p
        rw [e16]; omega
      · show up _ _ _ _ (a + 16) p < _
        rw [e16]; omega
      · show (up _ _ _ _ (a + 16) p).toNat.testBit _ = _
        rw [e16, Int.toNat_natCast, tx, if_neg (by omega)]
      · show loS v p x _ = if (up _ _ _ _ (a + 16) p).toNat.testBit _ = true then 1 else 0
        rw [lv, e16, Int.toNat_natCast, tx, if_pos rfl, hb]
        rfl
      · show up _ _ _ _ (a + 4) i = m (a + 4) i + _
        rw [lv, h, up_a (by omega)]
        by_cases c : i = p
        · rw [c, up_at, if_pos rfl]
          rfl
        · rw [up_i c, up_a (by omega), if_neg c, Int.add_zero]
      · show up _ _ _ _ (a + 17) i = m (a + 17) i + _
        rw [lv, h]
        by_cases c : i = x
        · rw [c, up_at, if_pos rfl]
          rfl
        · rw [up_i c, up_a (by omega), up_a (by omega), if_neg c, Int.add_zero]
  · have z : v (51 + 7 * (30 * p + x) + 0) = 0 := by
      rw [o2] at h ⊢
      split at h <;> simp_all
    have e : loS v p x = v := funext fun i => by
      by_cases c : i = 51 + 7 * (30 * p + x) + 0
      · rw [c, loS, ups_at, z]
      · rw [loS, ups_ne c]
    simp only [h, if_false] at CR
    refine ⟨m, fun n => ?_, by rw [e]; exact NC, fun _ _ _ _ _ => rfl⟩
    rw [j_X1_lose_0]
    simp (disch := omega) only [b_X1_lose_0, Net0_k hn, CR, Option.bind_some, xI, xU, xUt, xIt, J_lit, J_add, J_sub, J_mul, J_neg, J_ltc, J_lec, J_eqc, lt_T, lt_F, le_T, le_F, eq_T, eq_F, ↓reduceIte, ite_not, not_true_eq_false, not_false_eq_true, true_or, or_true, false_or, or_false, true_and, and_true, false_and, and_false, up_get, Nat.reduceEqDiff, Int.reduceNeg, eqN_T, eqN_F]
theorem e_lose_no (p : Int) (n : Nat) (P : xH) : f_X1_lose (n + 1) 0 [.ref a, .int (J p), .int (J (-1))] P = some (.inl none, P) := by
  rw [j_X1_lose_0]
  simp (disch := omega) only [b_X1_lose_0, Option.bind_some, xI, xU, xUt, xIt, J_lit, J_add, J_sub, J_mul, J_neg, J_ltc, J_lec, J_eqc, lt_T, lt_F, le_T, le_F, eq_T, eq_F, ↓reduceIte, ite_not, not_true_eq_false, not_false_eq_true, true_or, or_true, false_or, or_false, true_and, and_true, false_and, and_false, up_get, Nat.reduceEqDiff, Int.reduceNeg, eqN_T, eqN_F]
theorem e_isFull (hn : NetS S a 16 r) (W : Wok w) (NC : NetC m q a told w v) (p0 : 0 ≤ p) (p1 : p < w 0) (n : Nat) : f_X1_isFull (n + 1) 0 [.ref a, .int (J p)] (hp S m q) = some (.inl (some (.int (J (if w (11 + 3 * p + 1) ≤ cntw v p 30 then 1 else 0)))), hp S m q) := by
  have tw := W.1.2.1
  have b := W.1.2.2 p p0 p1
  have c := cntw_in v p 30
  have s4 : m (a + 4) p = cntw v p 30 := (NC.2.2.1 p p0 (by omega)).1
  have s5 : m (a + 5) p = w (11 + 3 * p + 1) := (NC.2.1 p p0 p1).1.2.2.1
  rw [j_X1_isFull_0]
  by_cases d : w (11 + 3 * p + 1) ≤ cntw v p 30
  · rw [if_pos d]
    simp (disch := omega) only [b_X1_isFull_0, Net0_r5 hn, Net1_m2 hn, Net1_m3 hn, Net4_g hn, Net5_g hn, s4, s5, Option.bind_some, xI, xU, xUt, xIt, J_lit, J_add, J_sub, J_mul, J_neg, J_ltc, J_lec, J_eqc, lt_T, lt_F, le_T, le_F, eq_T, eq_F, ↓reduceIte, ite_not, not_true_eq_false, not_false_eq_true, true_or, or_true, false_or, or_false, true_and, and_true, false_and, and_false, up_get, Nat.reduceEqDiff, Int.reduceNeg, eqN_T, eqN_F]
  · rw [if_neg d]
    simp (disch := omega) only [b_X1_isFull_0, Net0_r5 hn, Net1_m2 hn, Net1_m3 hn, Net4_g hn, Net5_g hn, s4, s5, Option.bind_some, xI, xU, xUt, xIt, J_lit, J_add, J_sub, J_mul, J_neg, J_ltc, J_lec, J_eqc, lt_T, lt_F, le_T, le_F, eq_T, eq_F, ↓reduceIte, ite_not, not_true_eq_false, not_false_eq_true, true_or, or_true, false_or, or_false, true_and, and_true, false_and, and_false, up_get, Nat.reduceEqDiff, Int.reduceNeg, eqN_T, eqN_F]
/-- a copy is given away -/
theorem q_give (hn : NetS S a 16 r) (W : Wok w) (NC : NetC m q a told w v) (p0 : 0 ≤ p) (p1 : p < w 0) (x0 : 0 ≤ x) (x1 : x < told) : ∃ m', De (fun n => f_X1_giveAway n 0 [.ref a, .int (J p), .int (J x)] (hp S m q)) (.inl none) (hp S m' q) ∧ NetC m' q a told w (gvS v p x) ∧ (∀ b i, b ≠ a + 4 → b ≠ a + 16 → b ≠ a + 17 → b ≠ a + 21 → b ≠ a + 9 → m' b i = m b i) ∧ (0 ≤ m (a + 21) p → m' (a + 21) p = (((m (a + 21) p).toNat ||| 2 ^ x.toNat : Nat) : Int)) ∧ ∀ i, i ≠ p → m' (a + 21) i = m (a + 21) i := by
  have tw := W.1.2.1
  have t0 := NC.1
  have w1 := W.2.1
  obtain ⟨m1, E, NC1, F⟩ := q_lose (S := S) (r := r) hn W NC p0 p1 x0 x1
  obtain ⟨z, hz, hz2⟩ : ∃ z, J (m (a + 21) p) ||| (J 1 <<< (J x &&& J 31)) = J z ∧ (0 ≤ m (a + 21) p → z = (((m (a + 21) p).toNat ||| 2 ^ x.toNat : Nat) : Int)) := by
    by_cases c : 0 ≤ m (a + 21) p
    · exact ⟨_, J_or1 c x0 (by omega), fun _ => rfl⟩
    · obtain ⟨z, hz, -⟩ := J_of (J (m (a + 21) p) ||| (J 1 <<< (J x &&& J 31)))
      exact ⟨z, hz, fun q => absurd q c⟩
  have d21 : m1 (a + 21) p = m (a + 21) p := F _ _ (by omega) (by omega) (by omega)
  have g9 : m1 (a + 9) p = v (1 + 5 * p + 4) := (F _ _ (by omega) (by omega) (by omega)).trans (NC.2.1 p p0 p1).1.2.2.2.2.2.2
  refine ⟨up (up m1 (a + 21) p z) (a + 9) p (v (1 + 5 * p + 4) + 1), ?_, ?_, fun b i h1 h2 h3 h4 h5 => by rw [up_a h5, up_a h4]; exact F b i h1 h2 h3, fun c => by rw [up_a (by omega), up_at]; exact hz2 c, fun i hi => by rw [up_a (by omega), up_i hi]; exact F _ _ (by omega) (by omega) (by omega)⟩
  · refine De.eq 3 (fun n => ?_)
    rw [j_X1_giveAway_0]
    simp (disch := omega) only [b_X1_giveAway_0, Net0_k hn, E, Net0_r13 hn, Net21_g hn, Net21_s hn, d21, hz, Net0_r5 hn, Net1_m7 hn, Net9_g hn, Net9_s hn, up_a, ne_eq, g9, Option.bind_some, xI, xU, xUt, xIt, J_lit, J_add, J_sub, J_mul, J_neg, J_ltc, J_lec, J_eqc, lt_T, lt_F, le_T, le_F, eq_T, eq_F, ↓reduceIte, ite_not, not_true_eq_false, not_false_eq_true, true_or, or_true, false_or, or_false, true_and, and_true, false_and, and_false, up_get, Nat.reduceEqDiff, Int.reduceNeg, eqN_T, eqN_F]
  · refine Rnet.stat NC1 ⟨W.1.1, tw⟩ w1.2 ⟨?_, ?_, ?_⟩ ?_ (fun o i i0 h => ?_) (fun o i i0 h => rfl) (fun i hi => ups_ne (by omega)) (fun p' a0 a1 => ?_) (fun p' a0 a1 => ?_)
    · show up _ _ _ _ (a + 0) 3 = m1 (a + 0) 3
      rw [up_a (by omega), up_a (by omega)]
    · show up _ _ _ _ (a + 0) 4 = m1 (a + 0) 4
      rw [up_a (by omega), up_a (by omega)]
    · show up _ _ _ _ (a + 0) 2 = ups _ _ _ 0
      rw [up_a (by omega), up_a (by omega), ups_ne (by omega)]
      exact NC1.1.2.1
    · show loS v p x 0 ≤ ups _ _ _ 0 ∧ ups _ _ _ 0 ≤ 400
      rw [ups_ne (by omega)]
      have := NC1.1
      omega
    · show up _ _ _ _ (a + o) i = m1 (a + o) i
      rw [up_a (by omega), up_a (by omega)]
    · have y := NC1.2.1 p' a0 a1
      show (up _ _ _ _ (a + 2) p' = _ ∧ up _ _ _ _ (a + 3) p' = _ ∧ up _ _ _ _ (a + 7) p' = _ ∧ up _ _ _ _ (a + 8) p' = _ ∧ up _ _ _ _ (a + 9) p' = _) ∧ (0 ≤ up _ _ _ _ (a + 2) p' ∧ up _ _ _ _ (a + 2) p' ≤ _ ∧ 0 ≤ up _ _ _ _ (a + 3) p' ∧ up _ _ _ _ (a + 3) p' ≤ _)
      rw [up_a (show a + 2 ≠ a + 9 by omega), up_a (show a + 2 ≠ a + 21 by omega), up_a (show a + 3 ≠ a + 9 by omega), up_a (show a + 3 ≠ a + 21 by omega), up_a (show a + 7 ≠ a + 9 by omega), up_a (show a + 7 ≠ a + 21 by omega), up_a (show a + 8 ≠ a + 9 by omega), up_a (show a + 8 ≠ a + 21 by omega)]
      unfold gvS
      rw [ups_ne (by omega), ups_ne (by omega), ups_ne (by omega), ups_ne (by omega)]
      refine ⟨⟨y.1.1, y.1.2.1, y.1.2.2.2.2.1, y.1.2.2.2.2.2.1, ?_⟩, y.2⟩
      by_cases c : p' = p
      · rw [c, up_at, ups_at]
      · rw [up_i c, up_a (by omega), ups_ne (by omega)]
        exact y.1.2.2.2.2.2.2
    · show up _ _ _ _ (a + 7) p' = m1 (a + 7) p' ∧ up _ _ _ _ (a + 8) p' = m1 (a + 8) p' ∧ up _ _ _ _ (a + 9) p' = m1 (a + 9) p'
      rw [up_a (show a + 7 ≠ a + 9 by omega), up_a (show a + 7 ≠ a + 21 by omega), up_a (show a + 8 ≠ a + 9 by omega), up_a (show a + 8 ≠ a + 21 by omega), up_i (by omega), up_a (by omega)]
      exact ⟨rfl, rfl, rfl⟩
end LOSE
