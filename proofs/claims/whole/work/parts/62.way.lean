/-! way and rumour: the hands of a path (pf_lI, pf_shr, fb_andL: of the kit's laws, pasted) -/
theorem pf_lI {a : Nat} (h : a < 2 ^ 63) : (lN a).toInt = (a : Int) := lg_ofNat_toInt h
theorem pf_shr {a d : Nat} {D : Int64} (hD : (D.toBitVec.smod 64).toNat = d) (h : a < 2 ^ 62) : lN a >>> D = lN (a / 2 ^ d) := by
  have hd : a / 2 ^ d ≤ a := Nat.div_le_self _ _
  apply Int64.toInt_inj.mp
  have e : (lN a >>> D).toInt = (lN a).toInt >>> d := by
    rw [← hD]
    exact BitVec.toInt_sshiftRight ..
  rw [e, Int.shiftRight_eq_div_pow, pf_lI (by omega), pf_lI (by omega)]
  rfl
theorem fb_andL (a b : Nat) : lN a &&& lN b = lN (a &&& b) := by
  apply Int64.toBitVec_inj.1
  show BitVec.ofNat 64 a &&& BitVec.ofNat 64 b = BitVec.ofNat 64 (a &&& b)
  apply BitVec.eq_of_getLsbD_eq
  intro i hi
  simp [hi]
theorem sh64 : ∀ k, k < 16 → ((Int32.toInt64 (nI (4 * k)) &&& 63).toBitVec.smod 64).toNat = 4 * k := by decide +kernel
theorem J_dig {z i : Int} (z0 : 0 ≤ z) (z1 : z < 2147483648) (i0 : 0 ≤ i) (i1 : i < 8) : (J z >>> (J (4 * i) &&& J 31)) &&& J 15 = J (z / 16 ^ i.toNat % 16) := by
  rw [J_nn z0, J_nn (show 0 ≤ 4 * i by omega), ← J_lit 31, ← J_lit 15, pk_shrN (by omega) _ (4 * i).toNat (s_l _ (by omega))]
  show nI _ &&& nI 15 = _
  rw [nx_and, show (15 : Nat) = 2 ^ 4 - 1 from rfl, Nat.and_two_pow_sub_one_eq_mod, ← J_nI, show (4 * i).toNat = 4 * i.toNat by omega, Nat.pow_mul]
  congr 1
  show ((z.toNat / (2 ^ 4) ^ i.toNat % 2 ^ 4 : Nat) : Int) = _
  rw [Int.natCast_emod, Int.natCast_ediv, Int.toNat_of_nonneg z0, Int.natCast_pow]
  rfl
theorem L_dig {A i : Int} (z0 : 0 ≤ A) (z1 : A < 4611686018427387904) (i0 : 0 ≤ i) (i1 : i < 12) : Int64.toInt32 ((Int64.ofInt A >>> (Int32.toInt64 (J (4 * i)) &&& 63)) &&& 15) = J (A / 16 ^ i.toNat % 16) := by
  have e : Int64.ofInt A = lN A.toNat := by
    show Int64.ofInt A = Int64.ofNat A.toNat
    rw [← Int64.ofInt_eq_ofNat, Int.toNat_of_nonneg z0]
  rw [e, J_nn (show 0 ≤ 4 * i by omega), show (4 * i).toNat = 4 * i.toNat by omega, pf_shr (sh64 _ (by omega)) (by omega)]
  show Int64.toInt32 (lN _ &&& lN 15) = _
  rw [fb_andL, lN_i, show (15 : Nat) = 2 ^ 4 - 1 from rfl, Nat.and_two_pow_sub_one_eq_mod, ← J_nI, Nat.pow_mul]
  congr 1
  show ((A.toNat / (2 ^ 4) ^ i.toNat % 2 ^ 4 : Nat) : Int) = _
  rw [Int.natCast_emod, Int.natCast_ediv, Int.toNat_of_nonneg z0, Int.natCast_pow]
  rfl
theorem dig_lo (a b : Int) {i : Int} (i0 : 0 ≤ i) (i1 : i < 7) : (a + 268435456 * b) / 16 ^ i.toNat % 16 = a / 16 ^ i.toNat % 16 := by
  rcases (show i.toNat = 0 ∨ i.toNat = 1 ∨ i.toNat = 2 ∨ i.toNat = 3 ∨ i.toNat = 4 ∨ i.toNat = 5 ∨ i.toNat = 6 by omega) with e | e | e | e | e | e | e <;> rw [e] <;> omega
theorem dig_hi {a : Int} (b : Int) (a0 : 0 ≤ a) (a1 : a < 268435456) {i : Int} (i0 : 7 ≤ i) (i1 : i < 12) : (a + 268435456 * b) / 16 ^ i.toNat % 16 = b / 16 ^ (i - 7).toNat % 16 := by
  rcases (show (i.toNat = 7 ∧ (i - 7).toNat = 0) ∨ (i.toNat = 8 ∧ (i - 7).toNat = 1) ∨ (i.toNat = 9 ∧ (i - 7).toNat = 2) ∨ (i.toNat = 10 ∧ (i - 7).toNat = 3) ∨ (i.toNat = 11 ∧ (i - 7).toNat = 4) by omega) with ⟨e, f⟩ | ⟨e, f⟩ | ⟨e, f⟩ | ⟨e, f⟩ | ⟨e, f⟩ <;> rw [e, f] <;> omega
/-- hand number i of a path -/
def hnd (a b i : Int) : Int := (a + 268435456 * b) / 16 ^ i.toNat % 16
theorem hnd_in (a b i : Int) : 0 ≤ hnd a b i ∧ hnd a b i < 16 := by
  unfold hnd
  omega
section WAY
variable {S : xH} {m : Nat → Int → Int} {q : Nat → Int → Int64} {x i : Int}
theorem e_handOf (hs : Sk S) {a b h ph : Int} (x0 : 0 ≤ x) (x1 : x < 30) (r : Rpth (q 66 x) a b h ph) (i0 : 0 ≤ i) (i1 : i < h) (n : Nat) : f_X1_handOf (n + 1) 0 [.ref 46, .int (J x), .int (J i)] (hp S m q) = some (.inl (some (.int (J (hnd a b i)))), hp S m q) := by
  obtain ⟨r1, r2, r3, r4, r5, r6, r7, r8, r9⟩ := r
  rw [j_X1_handOf_0]
  unfold b_X1_handOf_0
  rw [x46_r12 hs, Option.bind_some, x66_g hs x0 x1, Option.bind_some, r5, J_lit 4, J_mul, L_dig (by omega) (by omega) i0 (by omega)]
  rfl
/-- the reference's way, where there is a hand -/
theorem e_wayOf (hs : Sk S) {L : Int64} {ph : Int} (x0 : 0 ≤ x) (x1 : x < 30) (h0 : 0 ≤ m 137 (2151 + 5 * x + 0)) (h1 : m 137 (2151 + 5 * x + 0) ≤ 400) (r : Rpth L (m 137 (2151 + 5 * x + 2)) (m 137 (2151 + 5 * x + 3)) (m 137 (2151 + 5 * x + 4)) ph) (i0 : 0 ≤ i) (i1 : i < m 137 (2151 + 5 * x + 4)) (n : Nat) : f_X11_wayOf (n + 3) 0 [.ref 136, .int (J x), .int (J i)] (hp S m q) = some (.inl (some (.int (J (hnd (m 137 (2151 + 5 * x + 2)) (m 137 (2151 + 5 * x + 3)) i)))), hp S m q) := by
  obtain ⟨r1, r2, r3, r4, -, r6, r7, -, -⟩ := r
  unfold hnd
  rw [j_X11_wayOf_0]
  by_cases c : i < 7
  · rw [dig_lo _ _ i0 c]
    simp (disch := omega) only [b_X11_wayOf_0, x136_k hs, x136_i0 hs, x136_w0 hs, x136_r1 hs, x136_r2 hs, x136_r3 hs, x136_r4 hs, x136_i5 hs, x136_w5 hs, x136_i6 hs, x136_w6 hs, x136_i7 hs, x136_w7 hs, x136_r8 hs, x136_i9 hs, x136_w9 hs, x136_i10 hs, x136_w10 hs, x136_i11 hs, x136_w11 hs, x136_i12 hs, x136_w12 hs, x136_i13 hs, x136_w13 hs, x136_i14 hs, x136_w14 hs, x136_r15 hs, x136_i16 hs, x136_w16 hs, x136_r17 hs, x136_r18 hs, x136_r19 hs, x136_r20 hs, x136_r21 hs, x136_i22 hs, x136_w22 hs, x136_r23 hs, x136_r24 hs, x136_i25 hs, x136_w25 hs, x136_i26 hs, x136_w26 hs, x136_r27 hs, x136_r28 hs, x136_i29 hs, x136_w29 hs, x137_g hs, x137_s hs, x137_l hs, e_hadAt, e_in_T, J_dig, Option.bind_some, xI, xU, xUt, xIt, J_lit, J_add, J_sub, J_mul, J_neg, J_ltc, J_lec, J_eqc, lt_T, lt_F, le_T, le_F, eq_T, eq_F, ↓reduceIte, ite_not, not_true_eq_false, not_false_eq_true, true_or, or_true, false_or, or_false, true_and, and_true, false_and, and_false, up_get, Nat.reduceEqDiff, Int.reduceNeg, eqN_T, eqN_F]
  · rw [dig_hi _ r1 r2 (by omega) (by omega)]
    simp (disch := omega) only [b_X11_wayOf_0, x136_k hs, x136_i0 hs, x136_w0 hs, x136_r1 hs, x136_r2 hs, x136_r3 hs, x136_r4 hs, x136_i5 hs, x136_w5 hs, x136_i6 hs, x136_w6 hs, x136_i7 hs, x136_w7 hs, x136_r8 hs, x136_i9 hs, x136_w9 hs, x136_i10 hs, x136_w10 hs, x136_i11 hs, x136_w11 hs, x136_i12 hs, x136_w12 hs, x136_i13 hs, x136_w13 hs, x136_i14 hs, x136_w14 hs, x136_r15 hs, x136_i16 hs, x136_w16 hs, x136_r17 hs, x136_r18 hs, x136_r19 hs, x136_r20 hs, x136_r21 hs, x136_i22 hs, x136_w22 hs, x136_r23 hs, x136_r24 hs, x136_i25 hs, x136_w25 hs, x136_i26 hs, x136_w26 hs, x136_r27 hs, x136_r28 hs, x136_i29 hs, x136_w29 hs, x137_g hs, x137_s hs, x137_l hs, e_hadAt, e_in_T, J_dig, Option.bind_some, xI, xU, xUt, xIt, J_lit, J_add, J_sub, J_mul, J_neg, J_ltc, J_lec, J_eqc, lt_T, lt_F, le_T, le_F, eq_T, eq_F, ↓reduceIte, ite_not, not_true_eq_false, not_false_eq_true, true_or, or_true, false_or, or_false, true_and, and_true, false_and, and_false, up_get, Nat.reduceEqDiff, Int.reduceNeg, eqN_T, eqN_F]
/-- the first hand that swells -/
def fsw (w : Int → Int) (a b : Int) : Nat → Int → Int
  | 0, _ => -1
  | k + 1, i => if 0 < w (11 + 3 * hnd a b i + 2) then hnd a b i else fsw w a b k (i + 1)
theorem q_swell_l (hs : Sk S) {a b h : Int} (x0 : 0 ≤ x) (x1 : x < 30) (hh : m 65 x = h) (r : Rpth (q 66 x) a b h (m 139 0)) (w0 : 0 ≤ m 139 0) (w1 : m 139 0 ≤ 10) (ph : m 46 3 = m 139 0) (hw : ∀ p : Int, 0 ≤ p → p < m 139 0 → m 52 p = m 139 (11 + 3 * p + 2) ∧ 0 ≤ m 139 (11 + 3 * p + 2) ∧ m 139 (11 + 3 * p + 2) ≤ 9) (kd : Int) : ∀ k i : Nat, ((i + k : Nat) : Int) = h → De (fun n => f_X1_firstToSwell n 49 [.ref 46, .int (J x), .int (J kd), .int (J 1), .int (J i)] (hp S m q)) (.inl (some (.int (J (fsw (m 139) a b k i))))) (hp S m q) := by
  have h12 : h ≤ 12 := r.2.2.2.2.2.2.1
  intro k
  induction k with
  | zero =>
    intro i hi
    refine De.cg 3 (g := fun _ => some (.inl (some (.int (J (-1)))), hp S m q)) (fun n => ?_) (De.ret _ _)
    rw [j_X1_firstToSwell_49]
    simp (disch := omega) only [b_X1_firstToSwell_49, x46_k hs, x46_r0 hs, x46_r1 hs, x46_i2 hs, x46_w2 hs, x46_i3 hs, x46_w3 hs, x46_i4 hs, x46_w4 hs, x46_r5 hs, x46_r6 hs, x46_r7 hs, x46_r8 hs, x46_r9 hs, x46_r10 hs, x46_r11 hs, x46_r12 hs, x46_r13 hs, x46_i14 hs, x46_w14 hs, x46_i15 hs, x46_w15 hs, x46_i16 hs, x46_w16 hs, x65_g hs, x65_s hs, x65_l hs, hh, Option.bind_some, xI, xU, xUt, xIt, J_lit, J_add, J_sub, J_mul, J_neg, J_ltc, J_lec, J_eqc, lt_T, lt_F, le_T, le_F, eq_T, eq_F, ↓reduceIte, ite_not, not_true_eq_false, not_false_eq_true, true_or, or_true, false_or, or_false, true_and, and_true, false_and, and_false, up_get, Nat.reduceEqDiff, Int.reduceNeg, eqN_T, eqN_F]
  | succ k IH =>
    intro i hi
    have ih := IH (i + 1) (by omega)
    have H := fun n => e_handOf (m := m) hs x0 x1 r (show (0 : Int) ≤ (i : Int) by omega) (show (i : Int) < h by omega) n
    have d := hnd_in a b i
    have d2 : hnd a b i < m 139 0 := r.2.2.2.2.2.2.2.2 i (by omega)
    obtain ⟨s1, s2, s3⟩ := hw (hnd a b i) d.1 d2
    rw [fsw]
    by_cases c : 0 < m 139 (11 + 3 * hnd a b i + 2)
    · rw [if_pos c]
      refine De.cg 3 (g := fun _ => some (.inl (some (.int (J (hnd a b i)))), hp S m q)) (fun n => ?_) (De.ret _ _)
      rw [j_X1_firstToSwell_49]
      simp (disch := omega) only [b_X1_firstToSwell_49, x46_k hs, x46_r0 hs, x46_r1 hs, x46_i2 hs, x46_w2 hs, x46_i3 hs, x46_w3 hs, x46_i4 hs, x46_w4 hs, x46_r5 hs, x46_r6 hs, x46_r7 hs, x46_r8 hs, x46_r9 hs, x46_r10 hs, x46_r11 hs, x46_r12 hs, x46_r13 hs, x46_i14 hs, x46_w14 hs, x46_i15 hs, x46_w15 hs, x46_i16 hs, x46_w16 hs, x47_m0 hs, x47_m1 hs, x47_m2 hs, x47_m3 hs, x47_m4 hs, x47_m5 hs, x47_m6 hs, x47_m7 hs, x47_l hs, x52_g hs, x52_s hs, x52_l hs, x65_g hs, x65_s hs, x65_l hs, hh, H, ph, s1, Option.bind_some, xI, xU, xUt, xIt, J_lit, J_add, J_sub, J_mul, J_neg, J_ltc, J_lec, J_eqc, lt_T, lt_F, le_T, le_F, eq_T, eq_F, ↓reduceIte, ite_not, not_true_eq_false, not_false_eq_true, true_or, or_true, false_or, or_false, true_and, and_true, false_and, and_false, up_get, Nat.reduceEqDiff, Int.reduceNeg, eqN_T, eqN_F]
    · rw [if_neg c]
      refine De.cg 3 (fun n => ?_) (ih.sh 2)
      rw [j_X1_firstToSwell_49]
      simp (disch := omega) only [b_X1_firstToSwell_49, x46_k hs, x46_r0 hs, x46_r1 hs, x46_i2 hs, x46_w2 hs, x46_i3 hs, x46_w3 hs, x46_i4 hs, x46_w4 hs, x46_r5 hs, x46_r6 hs, x46_r7 hs, x46_r8 hs, x46_r9 hs, x46_r10 hs, x46_r11 hs, x46_r12 hs, x46_r13 hs, x46_i14 hs, x46_w14 hs, x46_i15 hs, x46_w15 hs, x46_i16 hs, x46_w16 hs, x47_m0 hs, x47_m1 hs, x47_m2 hs, x47_m3 hs, x47_m4 hs, x47_m5 hs, x47_m6 hs, x47_m7 hs, x47_l hs, x52_g hs, x52_s hs, x52_l hs, x65_g hs, x65_s hs, x65_l hs, hh, H, ph, s1, Option.bind_some, xI, xU, xUt, xIt, J_lit, J_add, J_sub, J_mul, J_neg, J_ltc, J_lec, J_eqc, lt_T, lt_F, le_T, le_F, eq_T, eq_F, ↓reduceIte, ite_not, not_true_eq_false, not_false_eq_true, true_or, or_true, false_or, or_false, true_and, and_true, false_and, and_false, up_get, Nat.reduceEqDiff, Int.reduceNeg, eqN_T, eqN_F]
      rfl
theorem q_rumour_l (hs : Sk S) {L : Int64} (x0 : 0 ≤ x) (x1 : x < 30) (h0 : 0 ≤ m 137 (2151 + 5 * x + 0)) (h1 : m 137 (2151 + 5 * x + 0) ≤ 400) (r : Rpth L (m 137 (2151 + 5 * x + 2)) (m 137 (2151 + 5 * x + 3)) (m 137 (2151 + 5 * x + 4)) (m 139 0)) (w0 : 0 ≤ m 139 0) (w1 : m 139 0 ≤ 10) (hw : ∀ p : Int, 0 ≤ p → p < m 139 0 → 0 ≤ m 139 (11 + 3 * p + 2) ∧ m 139 (11 + 3 * p + 2) ≤ 9) : ∀ k i : Nat, ((i + k : Nat) : Int) = m 137 (2151 + 5 * x + 4) → De (fun n => f_X11_rumour n 80 [.ref 136, .int (J x), .int (J 1), .int (J i)] (hp S m q)) (.inl (some (.int (J (fsw (m 139) (m 137 (2151 + 5 * x + 2)) (m 137 (2151 + 5 * x + 3)) k i))))) (hp S m q) := by
  have h12 : m 137 (2151 + 5 * x + 4) ≤ 12 := r.2.2.2.2.2.2.1
  intro k
  induction k with
  | zero =>
    intro i hi
    refine De.cg 5 (g := fun _ => some (.inl (some (.int (J (-1)))), hp S m q)) (fun n => ?_) (De.ret _ _)
    rw [j_X11_rumour_80]
    simp (disch := omega) only [b_X11_rumour_80, x136_k hs, x136_i0 hs, x136_w0 hs, x136_r1 hs, x136_r2 hs, x136_r3 hs, x136_r4 hs, x136_i5 hs, x136_w5 hs, x136_i6 hs, x136_w6 hs, x136_i7 hs, x136_w7 hs, x136_r8 hs, x136_i9 hs, x136_w9 hs, x136_i10 hs, x136_w10 hs, x136_i11 hs, x136_w11 hs, x136_i12 hs, x136_w12 hs, x136_i13 hs, x136_w13 hs, x136_i14 hs, x136_w14 hs, x136_r15 hs, x136_i16 hs, x136_w16 hs, x136_r17 hs, x136_r18 hs, x136_r19 hs, x136_r20 hs, x136_r21 hs, x136_i22 hs, x136_w22 hs, x136_r23 hs, x136_r24 hs, x136_i25 hs, x136_w25 hs, x136_i26 hs, x136_w26 hs, x136_r27 hs, x136_r28 hs, x136_i29 hs, x136_w29 hs, x137_g hs, x137_s hs, x137_l hs, e_hadAt, Option.bind_some, xI, xU, xUt, xIt, J_lit, J_add, J_sub, J_mul, J_neg, J_ltc, J_lec, J_eqc, lt_T, lt_F, le_T, le_F, eq_T, eq_F, ↓reduceIte, ite_not, not_true_eq_false, not_false_eq_true, true_or, or_true, false_or, or_false, true_and, and_true, false_and, and_false, up_get, Nat.reduceEqDiff, Int.reduceNeg, eqN_T, eqN_F]
  | succ k IH =>
    intro i hi
    have ih := IH (i + 1) (by omega)
    have H := fun n => e_wayOf (q := q) hs x0 x1 h0 h1 r (show (0 : Int) ≤ (i : Int) by omega) (show (i : Int) < m 137 (2151 + 5 * x + 4) by omega) n
    have d := hnd_in (m 137 (2151 + 5 * x + 2)) (m 137 (2151 + 5 * x + 3)) i
    have d2 : hnd (m 137 (2151 + 5 * x + 2)) (m 137 (2151 + 5 * x + 3)) i < m 139 0 := r.2.2.2.2.2.2.2.2 i (by omega)
    obtain ⟨s2, s3⟩ := hw _ d.1 d2
    rw [fsw]
    by_cases c : 0 < m 139 (11 + 3 * hnd (m 137 (2151 + 5 * x + 2)) (m 137 (2151 + 5 * x + 3)) i + 2)
    · rw [if_pos c]
      refine De.cg 5 (g := fun _ => some (.inl (some (.int (J (hnd (m 137 (2151 + 5 * x + 2)) (m 137 (2151 + 5 * x + 3)) i)))), hp S m q)) (fun n => ?_) (De.ret _ _)
      rw [j_X11_rumour_80]
      simp (disch := omega) only [b_X11_rumour_80, x136_k hs, x136_i0 hs, x136_w0 hs, x136_r1 hs, x136_r2 hs, x136_r3 hs, x136_r4 hs, x136_i5 hs, x136_w5 hs, x136_i6 hs, x136_w6 hs, x136_i7 hs, x136_w7 hs, x136_r8 hs, x136_i9 hs, x136_w9 hs, x136_i10 hs, x136_w10 hs, x136_i11 hs, x136_w11 hs, x136_i12 hs, x136_w12 hs, x136_i13 hs, x136_w13 hs, x136_i14 hs, x136_w14 hs, x136_r15 hs, x136_i16 hs, x136_w16 hs, x136_r17 hs, x136_r18 hs, x136_r19 hs, x136_r20 hs, x136_r21 hs, x136_i22 hs, x136_w22 hs, x136_r23 hs, x136_r24 hs, x136_i25 hs, x136_w25 hs, x136_i26 hs, x136_w26 hs, x136_r27 hs, x136_r28 hs, x136_i29 hs, x136_w29 hs, x137_g hs, x137_s hs, x137_l hs, e_hadAt, H, e_toldOf hs, Option.bind_some, xI, xU, xUt, xIt, J_lit, J_add, J_sub, J_mul, J_neg, J_ltc, J_lec, J_eqc, lt_T, lt_F, le_T, le_F, eq_T, eq_F, ↓reduceIte, ite_not, not_true_eq_false, not_false_eq_true, true_or, or_true, false_or, or_false, true_and, and_true, false_and, and_false, up_get, Nat.reduceEqDiff, Int.reduceNeg, eqN_T, eqN_F]
    · rw [if_neg c]
      refine De.cg 5 (fun n => ?_) (ih.sh 4)
      rw [j_X11_rumour_80]
      simp (disch := omega) only [b_X11_rumour_80, x136_k hs, x136_i0 hs, x136_w0 hs, x136_r1 hs, x136_r2 hs, x136_r3 hs, x136_r4 hs, x136_i5 hs, x136_w5 hs, x136_i6 hs, x136_w6 hs, x136_i7 hs, x136_w7 hs, x136_r8 hs, x136_i9 hs, x136_w9 hs, x136_i10 hs, x136_w10 hs, x136_i11 hs, x136_w11 hs, x136_i12 hs, x136_w12 hs, x136_i13 hs, x136_w13 hs, x136_i14 hs, x136_w14 hs, x136_r15 hs, x136_i16 hs, x136_w16 hs, x136_r17 hs, x136_r18 hs, x136_r19 hs, x136_r20 hs, x136_r21 hs, x136_i22 hs, x136_w22 hs, x136_r23 hs, x136_r24 hs, x136_i25 hs, x136_w25 hs, x136_i26 hs, x136_w26 hs, x136_r27 hs, x136_r28 hs, x136_i29 hs, x136_w29 hs, x137_g hs, x137_s hs, x137_l hs, e_hadAt, H, e_toldOf hs, Option.bind_some, xI, xU, xUt, xIt, J_lit, J_add, J_sub, J_mul, J_neg, J_ltc, J_lec, J_eqc, lt_T, lt_F, le_T, le_F, eq_T, eq_F, ↓reduceIte, ite_not, not_true_eq_false, not_false_eq_true, true_or, or_true, false_or, or_false, true_and, and_true, false_and, and_false, up_get, Nat.reduceEqDiff, Int.reduceNeg, eqN_T, eqN_F]
      rfl
end WAY
