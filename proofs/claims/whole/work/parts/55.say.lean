/-! folds over the sayings -/
/-- bitCount, whatever it counts -/
def bcn (x : Int32) : Int32 := match f_J6_bitCount_0f7a4 1 0 [.int x] xP0 with
  | some (.inl (some (.int y)), _) => y
  | _ => 0
theorem e_bitCount (x : Int32) (n : Nat) (P : xH) : f_J6_bitCount_0f7a4 (n + 1) 0 [.int x] P = some (.inl (some (.int (bcn x))), P) := rfl
def foC (c : Int → Bool) (w L : Int → Int) : Nat → Int32
  | 0 => J 0
  | k + 1 => if c k = true then foC c w L k ||| (J 1 <<< (J (w (761 + 10 * L k + 1)) &&& J 31)) else foC c w L k
/-- steps between two places, as a number -/
def dst (a b : Int) : Int := ((a - a / 4 * 4 - (b - b / 4 * 4)).natAbs : Int) + ((a / 4 - b / 4).natAbs : Int)
theorem stp_dst {a b : Int} (a0 : 0 ≤ a) (a1 : a < 16) (b0 : 0 ≤ b) (b1 : b < 16) : stp a b = J (dst a b) := by
  unfold stp dst
  rw [J_abs (by omega) (by omega), J_abs (by omega) (by omega), J_add]
theorem dst_in {a b : Int} (a0 : 0 ≤ a) (a1 : a < 16) (b0 : 0 ≤ b) (b1 : b < 16) : 0 ≤ dst a b ∧ dst a b ≤ 6 := by
  unfold dst
  omega
theorem dst_comm (a b : Int) : dst a b = dst b a := by
  unfold dst
  omega
/-- a word's place is near enough at a tick -/
def near (w : Int → Int) (t p x : Int) : Bool := decide (dst (w (761 + 10 * x + 5)) p ≤ w 6 * ((w (761 + 10 * x + 6) - t).natAbs : Int))
theorem mul_in {a b : Int} (a0 : 1 ≤ a) (a1 : a ≤ 8) (b0 : 0 ≤ b) (b1 : b ≤ 800) : 0 ≤ a * b ∧ a * b ≤ 6400 := by
  constructor
  · exact Int.mul_nonneg (by omega) b0
  · have : a * b ≤ 8 * 800 := Int.mul_le_mul a1 b1 b0 (by omega)
    omega
def allN (w L : Int → Int) (t p : Int) : Nat → Int → Bool
  | 0, _ => true
  | k + 1, i => near w t p (L i) && allN w L t p k (i + 1)
def foPl (w L : Int → Int) (t : Int) (c : Nat) : Nat → Int32
  | 0 => J 0
  | p + 1 => if allN w L t p c 0 = true then foPl w L t c p ||| (J 1 <<< (J p &&& J 31)) else foPl w L t c p ||| J 0
section SAY1
variable {S : xH} {m : Nat → Int → Int} {q : Nat → Int → Int64} {kn pe t : Int}
theorem InvM.gok (h : InvM S m q) : Gok m := by
  have sm := h.small
  refine ⟨⟨sm.2.1.1, sm.2.1.2.1, sm.2.1.2.2.1⟩, fun x x0 x1 => ?_⟩
  have a := h.word x x0 x1
  have b := h.had x x0 x1
  exact ⟨⟨a.1.1, a.1.2.2.2.2.1, a.1.2.2.2.2.2.2.2.2.1, b.1⟩, by omega, by omega, by omega, by omega, by omega, by omega, by omega, by omega⟩
/-- a gathered list, on either side: n words L in the cells a -/
def Lst (m : Nat → Int → Int) (a : Nat) (L : Int → Int) (n : Nat) : Prop := n ≤ 30 ∧ ∀ i : Int, 0 ≤ i → i < n → m a i = L i ∧ 0 ≤ L i ∧ L i < m 139 1
/-- the words' facts that the folds read -/
def Fok (m : Nat → Int → Int) : Prop := (0 ≤ m 139 1 ∧ m 139 1 ≤ 30 ∧ 1 ≤ m 139 6 ∧ m 139 6 ≤ 8) ∧ ∀ x : Int, 0 ≤ x → x < m 139 1 → (0 ≤ m 139 (761 + 10 * x + 1) ∧ m 139 (761 + 10 * x + 1) < 10 ∧ 0 ≤ m 139 (761 + 10 * x + 5) ∧ m 139 (761 + 10 * x + 5) ≤ 15)
def Fcl (m : Nat → Int → Int) : Prop := ∀ x : Int, 0 ≤ x → x < m 139 1 → m 19 x = m 139 (761 + 10 * x + 1) ∧ m 23 x = m 139 (761 + 10 * x + 5) ∧ m 24 x = m 139 (761 + 10 * x + 6)
theorem InvM.fok (h : InvM S m q) : Fok m := by
  have sm := h.small
  obtain ⟨tap, by0, lot0, ⟨par, hid, prt, sto, gan, wrd, wlk, row, rul, tol, plc, net, dwn⟩, kep⟩ := h.get
  obtain ⟨p1, p2, p3, -⟩ := par
  refine ⟨⟨sm.2.1.1, sm.2.1.2.1, p2, p3⟩, fun x x0 x1 => ?_⟩
  obtain ⟨⟨f0, f1, f2, f3, f4, f5, f6, f7, f8, f9⟩, g1, g2, g3⟩ := h.word x x0 x1
  omega
theorem InvM.fcl (h : InvM S m q) : Fcl m := by
  intro x x0 x1
  obtain ⟨⟨f0, f1, f2, f3, f4, f5, f6, f7, f8, f9⟩, g1, g2, g3⟩ := h.word x x0 x1
  exact ⟨f1, f5, f6⟩
theorem q_mouthsAll_l (hs : Sk S) (F : Fok m) (C : Fcl m) (L : Int → Int) (N : Nat) (hN : (N : Int) = m 133 4) (hL : Lst m 134 L N) : ∀ k i : Nat, i + k = N → De (fun n => f_X6_mouthsAt n 4 [.ref 133, .int (J (-1)), .int (foC (fun _ => true) (m 139) L i), .int (J i)] (hp S m q)) (.inl (some (.int (foC (fun _ => true) (m 139) L N)))) (hp S m q)
  | 0, i, h => by
    have h : i = N := by omega
    subst h
    have l1 := hL.1
    refine De.stepk 3 ?_
    simp only [j_X6_mouthsAt_4]
    simp (disch := omega) only [b_X6_mouthsAt_4, x133_k hs, x133_r0 hs, x133_r1 hs, x133_r2 hs, x133_r3 hs, x133_i4 hs, x133_w4 hs, Option.bind_some, xI, xU, xUt, xIt, J_lit, J_add, J_sub, J_mul, J_neg, J_ltc, J_lec, J_eqc, lt_T, lt_F, le_T, le_F, eq_T, eq_F, ↓reduceIte, ite_not, not_true_eq_false, not_false_eq_true, true_or, or_true, false_or, or_false, true_and, and_true, false_and, and_false, up_get, Nat.reduceEqDiff, Int.reduceNeg, eqN_T, eqN_F]
    exact De.ret _ _
  | k + 1, i, h => by
    have l1 := hL.1
    have ih := (q_mouthsAll_l hs F C L N hN hL k (i + 1) (by omega)).sh 2
    obtain ⟨a1, a2, a3⟩ := hL.2 i (by omega) (by omega)
    obtain ⟨c1, c2, c3⟩ := C (L i) a2 a3
    obtain ⟨f1, f2⟩ := F
    obtain ⟨b1, b2, b3, b4⟩ := f2 (L i) a2 a3
    rw [foC, if_pos rfl] at ih
    refine De.stepk 4 ?_
    simp only [j_X6_mouthsAt_4]
    simp (disch := omega) only [b_X6_mouthsAt_4, x133_k hs, x133_r0 hs, x133_r1 hs, x133_r2 hs, x133_r3 hs, x133_i4 hs, x133_w4 hs, Option.bind_some, xI, xU, xUt, xIt, J_lit, J_add, J_sub, J_mul, J_neg, J_ltc, J_lec, J_eqc, lt_T, lt_F, le_T, le_F, eq_T, eq_F, ↓reduceIte, ite_not, not_true_eq_false, not_false_eq_true, true_or, or_true, false_or, or_false, true_and, and_true, false_and, and_false, up_get, Nat.reduceEqDiff, Int.reduceNeg, eqN_T, eqN_F]
    simp only [j_X6_mouthsAt_37]
    simp (disch := omega) only [b_X6_mouthsAt_37, x133_k hs, x133_r0 hs, x133_r1 hs, x133_r2 hs, x133_r3 hs, x133_i4 hs, x133_w4 hs, x134_g hs, x134_s hs, x134_l hs, x16_k hs, x16_r0 hs, x16_r1 hs, x16_r2 hs, x16_i3 hs, x16_w3 hs, x17_m0 hs, x17_m1 hs, x17_m2 hs, x17_m3 hs, x17_m4 hs, x17_m5 hs, x17_m6 hs, x17_m7 hs, x17_m8 hs, x17_l hs, x19_g hs, x19_s hs, x19_l hs, a1, c1, Option.bind_some, xI, xU, xUt, xIt, J_lit, J_add, J_sub, J_mul, J_neg, J_ltc, J_lec, J_eqc, lt_T, lt_F, le_T, le_F, eq_T, eq_F, ↓reduceIte, ite_not, not_true_eq_false, not_false_eq_true, true_or, or_true, false_or, or_false, true_and, and_true, false_and, and_false, up_get, Nat.reduceEqDiff, Int.reduceNeg, eqN_T, eqN_F]
    exact ih
theorem q_mouthsAll (hs : Sk S) (F : Fok m) (C : Fcl m) (L : Int → Int) (N : Nat) (hN : (N : Int) = m 133 4) (hL : Lst m 134 L N) : De (fun n => f_X6_mouthsAt n 0 [.ref 133, .int (J (-1))] (hp S m q)) (.inl (some (.int (foC (fun _ => true) (m 139) L N)))) (hp S m q) := by
  refine De.step ?_
  simp only [j_X6_mouthsAt_0, b_X6_mouthsAt_0, J_lit]
  exact q_mouthsAll_l hs F C L N hN hL N 0 (by omega)
/-- the reference's fold in sayings; b: whether the mouths are asked -/
theorem q_sayings_l (hs : Sk S) (F : Fok m) (L : Int → Int) (N : Nat) (hN : (N : Int) = m 136 22) (hL : Lst m 147 L N) (b : Int) (hb : b = 0 ∨ b = 1) : ∀ k i : Nat, i + k = N → De (fun n => f_X11_sayings n 31 [.ref 136, .int (J pe), .int (J kn), .int (J b), .int (foC (fun _ => true) (m 139) L i), .int (J i)] (hp S m q)) (.inl (some (.int (if b = 0 then J N else bcn (foC (fun _ => true) (m 139) L N))))) (hp S m q)
  | 0, i, h => by
    have h : i = N := by omega
    subst h
    have l1 := hL.1
    refine De.stepk 3 ?_
    rcases hb with rfl | rfl
    · rw [if_pos rfl, hN]
      simp only [j_X11_sayings_31]
      simp (disch := omega) only [b_X11_sayings_31, x136_k hs, x136_i0 hs, x136_w0 hs, x136_r1 hs, x136_r2 hs, x136_r3 hs, x136_r4 hs, x136_i5 hs, x136_w5 hs, x136_i6 hs, x136_w6 hs, x136_i7 hs, x136_w7 hs, x136_r8 hs, x136_i9 hs, x136_w9 hs, x136_i10 hs, x136_w10 hs, x136_i11 hs, x136_w11 hs, x136_i12 hs, x136_w12 hs, x136_i13 hs, x136_w13 hs, x136_i14 hs, x136_w14 hs, x136_r15 hs, x136_i16 hs, x136_w16 hs, x136_r17 hs, x136_r18 hs, x136_r19 hs, x136_r20 hs, x136_r21 hs, x136_i22 hs, x136_w22 hs, x136_r23 hs, x136_r24 hs, x136_i25 hs, x136_w25 hs, x136_i26 hs, x136_w26 hs, x136_r27 hs, x136_r28 hs, x136_i29 hs, x136_w29 hs, Option.bind_some, xI, xU, xUt, xIt, J_lit, J_add, J_sub, J_mul, J_neg, J_ltc, J_lec, J_eqc, lt_T, lt_F, le_T, le_F, eq_T, eq_F, ↓reduceIte, ite_not, not_true_eq_false, not_false_eq_true, true_or, or_true, false_or, or_false, true_and, and_true, false_and, and_false, up_get, Nat.reduceEqDiff, Int.reduceNeg, eqN_T, eqN_F]
      exact De.ret _ _
    · rw [if_neg (by omega)]
      simp only [j_X11_sayings_31]
      simp (disch := omega) only [b_X11_sayings_31, x136_k hs, x136_i0 hs, x136_w0 hs, x136_r1 hs, x136_r2 hs, x136_r3 hs, x136_r4 hs, x136_i5 hs, x136_w5 hs, x136_i6 hs, x136_w6 hs, x136_i7 hs, x136_w7 hs, x136_r8 hs, x136_i9 hs, x136_w9 hs, x136_i10 hs, x136_w10 hs, x136_i11 hs, x136_w11 hs, x136_i12 hs, x136_w12 hs, x136_i13 hs, x136_w13 hs, x136_i14 hs, x136_w14 hs, x136_r15 hs, x136_i16 hs, x136_w16 hs, x136_r17 hs, x136_r18 hs, x136_r19 hs, x136_r20 hs, x136_r21 hs, x136_i22 hs, x136_w22 hs, x136_r23 hs, x136_r24 hs, x136_i25 hs, x136_w25 hs, x136_i26 hs, x136_w26 hs, x136_r27 hs, x136_r28 hs, x136_i29 hs, x136_w29 hs, e_bitCount, Option.bind_some, xI, xU, xUt, xIt, J_lit, J_add, J_sub, J_mul, J_neg, J_ltc, J_lec, J_eqc, lt_T, lt_F, le_T, le_F, eq_T, eq_F, ↓reduceIte, ite_not, not_true_eq_false, not_false_eq_true, true_or, or_true, false_or, or_false, true_and, and_true, false_and, and_false, up_get, Nat.reduceEqDiff, Int.reduceNeg, eqN_T, eqN_F]
      exact De.ret _ _
  | k + 1, i, h => by
    have l1 := hL.1
    have ih := (q_sayings_l hs F L N hN hL b hb k (i + 1) (by omega)).sh 3
    obtain ⟨a1, a2, a3⟩ := hL.2 i (by omega) (by omega)
    obtain ⟨f1, f2⟩ := F
    obtain ⟨b1, b2, b3, b4⟩ := f2 (L i) a2 a3
    rw [foC, if_pos rfl] at ih
    refine De.stepk 4 ?_
    simp only [j_X11_sayings_31]
    simp (disch := omega) only [b_X11_sayings_31, x136_k hs, x136_i0 hs, x136_w0 hs, x136_r1 hs, x136_r2 hs, x136_r3 hs, x136_r4 hs, x136_i5 hs, x136_w5 hs, x136_i6 hs, x136_w6 hs, x136_i7 hs, x136_w7 hs, x136_r8 hs, x136_i9 hs, x136_w9 hs, x136_i10 hs, x136_w10 hs, x136_i11 hs, x136_w11 hs, x136_i12 hs, x136_w12 hs, x136_i13 hs, x136_w13 hs, x136_i14 hs, x136_w14 hs, x136_r15 hs, x136_i16 hs, x136_w16 hs, x136_r17 hs, x136_r18 hs, x136_r19 hs, x136_r20 hs, x136_r21 hs, x136_i22 hs, x136_w22 hs, x136_r23 hs, x136_r24 hs, x136_i25 hs, x136_w25 hs, x136_i26 hs, x136_w26 hs, x136_r27 hs, x136_r28 hs, x136_i29 hs, x136_w29 hs, x147_g hs, x147_s hs, x147_l hs, e_of hs, a1, Option.bind_some, xI, xU, xUt, xIt, J_lit, J_add, J_sub, J_mul, J_neg, J_ltc, J_lec, J_eqc, lt_T, lt_F, le_T, le_F, eq_T, eq_F, ↓reduceIte, ite_not, not_true_eq_false, not_false_eq_true, true_or, or_true, false_or, or_false, true_and, and_true, false_and, and_false, up_get, Nat.reduceEqDiff, Int.reduceNeg, eqN_T, eqN_F]
    exact ih
end SAY1
