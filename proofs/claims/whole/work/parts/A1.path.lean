/-! a copy comes: its path, its numbers -/
def wyS (a gi h : Int) : Int := if h < 7 then a + gi * 16 ^ h.toNat else a
def moS (b gi h : Int) : Int := if h < 7 then b else b + gi * 16 ^ (h - 7).toNat
theorem l_hand : ∀ g, g < 10 → ∀ h, h < 12 → Int32.toInt64 (nI g) <<< (Int32.toInt64 (nI (4 * h)) &&& 63) = lN (g * 16 ^ h) := by decide +kernel
theorem J_hand : ∀ g, g < 10 → ∀ h, h < 7 → nI g <<< (nI (4 * h) &&& 31) = nI (g * 16 ^ h) := by decide +kernel
theorem p16a : ∀ k, k < 7 → (16 : Int) ^ k * 16 ≤ 268435456 := by decide +kernel
theorem p16b : ∀ k, k < 5 → (16 : Int) ^ k * 16 ≤ 1048576 := by decide +kernel
theorem or_add {A B h : Nat} (hA : A < 16 ^ h) : A ||| B * 16 ^ h = A + B * 16 ^ h := by
  have e : (2 : Nat) ^ (4 * h) = 16 ^ h := Nat.pow_mul 2 4 h
  have t := Nat.two_pow_add_eq_or_of_lt (i := 4 * h) (b := A) (by rw [e]; exact hA) B
  rw [e] at t
  rw [Nat.or_comm, Nat.mul_comm B, ← t, Nat.add_comm]
theorem lN_of {z : Int} (h : 0 ≤ z) : Int64.ofInt z = lN z.toNat := by
  show Int64.ofInt z = Int64.ofNat z.toNat
  rw [← Int64.ofInt_eq_ofNat, Int.toNat_of_nonneg h]
theorem J_or {A B : Int} (a0 : 0 ≤ A) (b0 : 0 ≤ B) : J A ||| J B = J ((A.toNat ||| B.toNat : Nat) : Int) := by
  rw [J_nn a0, J_nn b0, J_nI]
  refine b_ext fun i hi => ?_
  rw [b_or]
  unfold bt
  show ((BitVec.ofNat 32 _).getLsbD i || (BitVec.ofNat 32 _).getLsbD i) = (BitVec.ofNat 32 _).getLsbD i
  simp [hi]
theorem p16_7 {h : Int} (h7 : 7 ≤ h) : (16 : Int) ^ h.toNat = 268435456 * 16 ^ (h - 7).toNat := by
  rw [show h.toNat = 7 + (h - 7).toNat by omega, Int.pow_add]
  rfl
theorem Rpth.lo {L : Int64} {a b h ph : Int} (r : Rpth L a b h ph) (h1 : h < 7) : b = 0 ∧ a < 16 ^ h.toNat := by
  obtain ⟨a0, a1, b0, b1, e, h0, -, A1, dg⟩ := r
  have := p16a h.toNat (by omega)
  omega
theorem Rpth.hi {L : Int64} {a b h ph : Int} (r : Rpth L a b h ph) (h1 : 7 ≤ h) : b < 16 ^ (h - 7).toNat := by
  obtain ⟨a0, a1, b0, b1, e, h0, -, A1, dg⟩ := r
  rw [p16_7 h1] at A1
  omega
theorem Rpth.on {L : Int64} {a b h ph gi : Int} (r : Rpth L a b h ph) (h1 : h < 12) (g0 : 0 ≤ gi) (g1 : gi < ph) (ph1 : ph ≤ 10) : Rpth (L ||| (Int32.toInt64 (J gi) <<< (Int32.toInt64 (J (4 * h)) &&& 63))) (wyS a gi h) (moS b gi h) (h + 1) ph := by
  have rr := id r
  obtain ⟨a0, a1, b0, b1, e, h0, -, A1, dg⟩ := r
  have gP : gi * 16 ^ h.toNat ≤ 9 * 16 ^ h.toNat := Int.mul_le_mul_of_nonneg_right (by omega) (by omega)
  have gP0 : 0 ≤ gi * 16 ^ h.toNat := Int.mul_nonneg g0 (by omega)
  have sum : wyS a gi h + 268435456 * moS b gi h = a + 268435456 * b + gi * 16 ^ h.toNat := by
    unfold wyS moS
    by_cases c : h < 7
    · rw [if_pos c, if_pos c]
      omega
    · rw [if_neg c, if_neg c, p16_7 (h := h) (by omega), Int.mul_left_comm]
      omega
  have nx : (16 : Int) ^ (h + 1).toNat = 16 ^ h.toNat * 16 := by rw [show (h + 1).toNat = h.toNat + 1 by omega, Int.pow_succ]
  have bd : (0 ≤ wyS a gi h ∧ wyS a gi h < 268435456) ∧ 0 ≤ moS b gi h ∧ moS b gi h < 1048576 := by
    unfold wyS moS
    by_cases c : h < 7
    · have := rr.lo c
      have := p16a h.toNat (by omega)
      rw [if_pos c, if_pos c]
      omega
    · have l := rr.hi (by omega)
      have := p16b (h - 7).toNat (by omega)
      have gc : gi * 16 ^ (h - 7).toNat ≤ 9 * 16 ^ (h - 7).toNat := Int.mul_le_mul_of_nonneg_right (by omega) (by omega)
      have gc0 : 0 ≤ gi * 16 ^ (h - 7).toNat := Int.mul_nonneg g0 (by omega)
      rw [if_neg c, if_neg c]
      omega
  refine ⟨bd.1.1, bd.1.2, bd.2.1, bd.2.2, ?_, by omega, by omega, by rw [sum, nx]; omega, fun i hi => ?_⟩
  · have cP : ((16 ^ h.toNat : Nat) : Int) = (16 : Int) ^ h.toNat := Int.natCast_pow 16 _
    have lt : (a + 268435456 * b).toNat < 16 ^ h.toNat := by omega
    rw [sum, e, lN_of (by omega), J_nn g0, J_nn (show 0 ≤ 4 * h by omega), show (4 * h).toNat = 4 * h.toNat by omega, l_hand _ (by omega) _ (by omega), l_or, or_add lt, lN_of (by omega)]
    congr 1
    have : ((gi.toNat * 16 ^ h.toNat : Nat) : Int) = gi * 16 ^ h.toNat := by rw [Int.natCast_mul, cP, Int.toNat_of_nonneg g0]
    omega
  · rw [sum]
    by_cases c : (i : Int) < h
    · have e2 : (16 : Int) ^ h.toNat = 16 ^ i * (16 * 16 ^ (h.toNat - i - 1)) := by
        rw [← Int.pow_succ', ← Int.pow_add]
        congr 1
        omega
      have p : (16 : Int) ^ i ≠ 0 := fun z => by
        rw [z] at e2
        omega
      rw [e2, Int.mul_left_comm, Int.add_mul_ediv_left _ _ p, Int.mul_left_comm, Int.add_mul_emod_self_left]
      exact dg i c
    · have e2 : h.toNat = i := by omega
      rw [← e2, Int.add_mul_ediv_right _ _ (by omega), Int.ediv_eq_zero_of_lt (by omega) A1]
      omega
/-- the reference's two ints -/
theorem J_way {L : Int64} {a b h ph gi : Int} (r : Rpth L a b h ph) (g0 : 0 ≤ gi) (g1 : gi < 10) (h1 : h < 7) : J a ||| (J gi <<< (J (4 * h) &&& J 31)) = J (wyS a gi h) := by
  have l := r.lo h1
  obtain ⟨a0, a1, b0, b1, e, h0, -, A1, dg⟩ := r
  have gP0 : 0 ≤ gi * 16 ^ h.toNat := Int.mul_nonneg g0 (by omega)
  have cP : ((16 ^ h.toNat : Nat) : Int) = (16 : Int) ^ h.toNat := Int.natCast_pow 16 _
  have t : ((gi.toNat * 16 ^ h.toNat : Nat) : Int) = gi * 16 ^ h.toNat := by rw [Int.natCast_mul, cP, Int.toNat_of_nonneg g0]
  have e1 : J gi <<< (J (4 * h) &&& J 31) = J (gi * 16 ^ h.toNat) := by
    rw [J_nn g0, J_nn (show 0 ≤ 4 * h by omega), show (4 * h).toNat = 4 * h.toNat by omega, ← t, J_nI]
    exact J_hand _ (by omega) _ (by omega)
  rw [e1, J_or a0 gP0, show (gi * 16 ^ h.toNat).toNat = gi.toNat * 16 ^ h.toNat by omega, or_add (by omega), wyS, if_pos h1]
  congr 1
  omega
theorem J_more {L : Int64} {a b h ph gi : Int} (r : Rpth L a b h ph) (g0 : 0 ≤ gi) (g1 : gi < 10) (h1 : 7 ≤ h) (h2 : h < 12) : J b ||| (J gi <<< (J (4 * (h - 7)) &&& J 31)) = J (moS b gi h) := by
  have l := r.hi h1
  obtain ⟨a0, a1, b0, b1, e, h0, -, A1, dg⟩ := r
  have gP0 : 0 ≤ gi * 16 ^ (h - 7).toNat := Int.mul_nonneg g0 (by omega)
  have cP : ((16 ^ (h - 7).toNat : Nat) : Int) = (16 : Int) ^ (h - 7).toNat := Int.natCast_pow 16 _
  have t : ((gi.toNat * 16 ^ (h - 7).toNat : Nat) : Int) = gi * 16 ^ (h - 7).toNat := by rw [Int.natCast_mul, cP, Int.toNat_of_nonneg g0]
  have e1 : J gi <<< (J (4 * (h - 7)) &&& J 31) = J (gi * 16 ^ (h - 7).toNat) := by
    rw [J_nn g0, J_nn (show 0 ≤ 4 * (h - 7) by omega), show (4 * (h - 7)).toNat = 4 * (h - 7).toNat by omega, ← t, J_nI]
    exact J_hand _ (by omega) _ (by omega)
  rw [e1, J_or b0 gP0, show (gi * 16 ^ (h - 7).toNat).toNat = gi.toNat * 16 ^ (h - 7).toNat by omega, or_add (by omega), moS, if_neg (by omega)]
  congr 1
  omega
/-- a copy's seven numbers; what the tent had; both -/
def ppS (v : Int → Int) (p x nu ho fr wy mo : Int) : Int → Int := fun i => if i = 51 + 7 * (30 * p + x) + 0 then 1 else if i = 51 + 7 * (30 * p + x) + 1 then nu else if i = 51 + 7 * (30 * p + x) + 2 then ho else if i = 51 + 7 * (30 * p + x) + 3 then fr else if i = 51 + 7 * (30 * p + x) + 4 then v 0 else if i = 51 + 7 * (30 * p + x) + 5 then wy else if i = 51 + 7 * (30 * p + x) + 6 then mo else v i
def hdS (v : Int → Int) (x nu ho wy mo : Int) : Int → Int := fun i => if i = 2151 + 5 * x + 0 then v 0 else if i = 2151 + 5 * x + 1 then nu else if i = 2151 + 5 * x + 2 then wy else if i = 2151 + 5 * x + 3 then mo else if i = 2151 + 5 * x + 4 then ho else v i
def cmS (v : Int → Int) (p x nu ho fr wy mo : Int) : Int → Int := if p = 0 ∧ v (2151 + 5 * x + 0) < 0 then hdS (ppS v p x nu ho fr wy mo) x nu ho wy mo else ppS v p x nu ho fr wy mo
def unS (w v : Int → Int) (p x : Int) : Int → Int := if 0 ≤ w (761 + 10 * x + 8) then loS v p (w (761 + 10 * x + 8)) else v
section PP
variable {v : Int → Int} {p x nu ho fr wy mo i : Int}
theorem ppS_0 : ppS v p x nu ho fr wy mo (51 + 7 * (30 * p + x) + 0) = 1 := if_pos rfl
theorem ppS_1 : ppS v p x nu ho fr wy mo (51 + 7 * (30 * p + x) + 1) = nu := (if_neg (by omega)).trans (if_pos rfl)
theorem ppS_2 : ppS v p x nu ho fr wy mo (51 + 7 * (30 * p + x) + 2) = ho := (if_neg (by omega)).trans ((if_neg (by omega)).trans (if_pos rfl))
theorem ppS_3 : ppS v p x nu ho fr wy mo (51 + 7 * (30 * p + x) + 3) = fr := (if_neg (by omega)).trans ((if_neg (by omega)).trans ((if_neg (by omega)).trans (if_pos rfl)))
theorem ppS_4 : ppS v p x nu ho fr wy mo (51 + 7 * (30 * p + x) + 4) = v 0 := (if_neg (by omega)).trans ((if_neg (by omega)).trans ((if_neg (by omega)).trans ((if_neg (by omega)).trans (if_pos rfl))))
theorem ppS_5 : ppS v p x nu ho fr wy mo (51 + 7 * (30 * p + x) + 5) = wy := (if_neg (by omega)).trans ((if_neg (by omega)).trans ((if_neg (by omega)).trans ((if_neg (by omega)).trans ((if_neg (by omega)).trans (if_pos rfl)))))
theorem ppS_6 : ppS v p x nu ho fr wy mo (51 + 7 * (30 * p + x) + 6) = mo := (if_neg (by omega)).trans ((if_neg (by omega)).trans ((if_neg (by omega)).trans ((if_neg (by omega)).trans ((if_neg (by omega)).trans ((if_neg (by omega)).trans (if_pos rfl))))))
theorem ppS_o (h : i < 51 + 7 * (30 * p + x) ∨ 51 + 7 * (30 * p + x) + 7 ≤ i) : ppS v p x nu ho fr wy mo i = v i := (if_neg (by omega)).trans ((if_neg (by omega)).trans ((if_neg (by omega)).trans ((if_neg (by omega)).trans ((if_neg (by omega)).trans ((if_neg (by omega)).trans (if_neg (by omega)))))))
theorem hdS_0 : hdS v x nu ho wy mo (2151 + 5 * x + 0) = v 0 := if_pos rfl
theorem hdS_2 : hdS v x nu ho wy mo (2151 + 5 * x + 2) = wy := (if_neg (by omega)).trans ((if_neg (by omega)).trans (if_pos rfl))
theorem hdS_3 : hdS v x nu ho wy mo (2151 + 5 * x + 3) = mo := (if_neg (by omega)).trans ((if_neg (by omega)).trans ((if_neg (by omega)).trans (if_pos rfl)))
theorem hdS_4 : hdS v x nu ho wy mo (2151 + 5 * x + 4) = ho := (if_neg (by omega)).trans ((if_neg (by omega)).trans ((if_neg (by omega)).trans ((if_neg (by omega)).trans (if_pos rfl))))
theorem hdS_o (h : i < 2151 + 5 * x ∨ 2151 + 5 * x + 5 ≤ i) : hdS v x nu ho wy mo i = v i := (if_neg (by omega)).trans ((if_neg (by omega)).trans ((if_neg (by omega)).trans ((if_neg (by omega)).trans (if_neg (by omega)))))
end PP
