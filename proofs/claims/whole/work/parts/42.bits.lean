/-! bits of small numbers (the family bt of the kit's laws, pasted, and rows of my own) -/
def bt (x : Int32) (i : Nat) : Bool := x.toBitVec.getLsbD i
theorem b_ext {x y : Int32} (h : ∀ i, i < 32 → bt x i = bt y i) : x = y := Int32.toBitVec_inj.mp (BitVec.eq_of_getLsbD_eq (fun i hi => h i hi))
theorem b_or (x y : Int32) (i : Nat) : bt (x ||| y) i = (bt x i || bt y i) := by unfold bt; rw [Int32.toBitVec_or, BitVec.getLsbD_or]
theorem b_and (x y : Int32) (i : Nat) : bt (x &&& y) i = (bt x i && bt y i) := by unfold bt; rw [Int32.toBitVec_and, BitVec.getLsbD_and]
theorem b_xor (x y : Int32) (i : Nat) : bt (x ^^^ y) i = (bt x i ^^ bt y i) := by unfold bt; rw [Int32.toBitVec_xor, BitVec.getLsbD_xor]
theorem b_big {x : Int32} {i : Nat} (h : 32 ≤ i) : bt x i = false := BitVec.getLsbD_of_ge _ _ h
theorem b_255 (i : Nat) : bt 255 i = decide (i < 8) := by
  rcases Nat.lt_or_ge i 32 with h | h
  · exact (by decide +kernel : ∀ i, i < 32 → bt 255 i = decide (i < 8)) i h
  · rw [b_big h, decide_eq_false (by omega)]
theorem b_65535 (i : Nat) : bt 65535 i = decide (i < 16) := by
  rcases Nat.lt_or_ge i 32 with h | h
  · exact (by decide +kernel : ∀ i, i < 32 → bt 65535 i = decide (i < 16)) i h
  · rw [b_big h, decide_eq_false (by omega)]
theorem b_m1 : ∀ i, i < 32 → bt (-1) i = true := by decide +kernel
theorem b_0 (i : Nat) : bt 0 i = false := BitVec.getLsbD_zero
theorem s_l : ∀ n, n < 32 → ((nI n &&& 31).toBitVec.smod 32).toNat = n := by decide +kernel
theorem s_u : ∀ n, n < 32 → (((nI n).toUInt32 &&& Int32.toUInt32 31).toBitVec % 32).toNat = n := by decide +kernel
theorem b_shl (n : Nat) (hn : n < 32) (x : Int32) {i : Nat} (hi : i < 32) : bt (x <<< (nI n &&& 31)) i = (decide (n ≤ i) && bt x (i - n)) := by
  unfold bt
  rw [Int32.toBitVec_shiftLeft]
  show (x.toBitVec <<< ((nI n &&& 31).toBitVec.smod 32).toNat).getLsbD i = _
  rw [s_l n hn, BitVec.getLsbD_shiftLeft]
  rcases Nat.lt_or_ge i n with h | h
  · simp [h, Nat.not_le.mpr h]
  · simp [hi, h, Nat.not_lt.mpr h]
theorem b_ushr (n : Nat) (hn : n < 32) (x : Int32) (i : Nat) : bt ((x.toUInt32 >>> ((nI n).toUInt32 &&& Int32.toUInt32 31)).toInt32) i = bt x (n + i) := by
  show (x.toUInt32 >>> ((nI n).toUInt32 &&& Int32.toUInt32 31)).toBitVec.getLsbD i = x.toUInt32.toBitVec.getLsbD (n + i)
  rw [UInt32.toBitVec_shiftRight]
  show (x.toUInt32.toBitVec >>> (((nI n).toUInt32 &&& Int32.toUInt32 31).toBitVec % 32).toNat).getLsbD i = _
  rw [s_u n hn, BitVec.getLsbD_ushiftRight]
theorem b_sshr (n : Nat) (hn : n < 32) (x : Int32) {i : Nat} (hi : i < 32) : bt (x >>> (nI n &&& 31)) i = if n + i < 32 then bt x (n + i) else bt x 31 := by
  unfold bt
  rw [Int32.toBitVec_shiftRight]
  show (x.toBitVec.sshiftRight ((nI n &&& 31).toBitVec.smod 32).toNat).getLsbD i = _
  rw [s_l n hn, BitVec.getLsbD_sshiftRight, BitVec.msb_eq_getLsbD_last]
  simp [hi]
theorem b_shl8 (x : Int32) {i : Nat} (hi : i < 32) : bt (x <<< ((8 : Int32) &&& 31)) i = (decide (8 ≤ i) && bt x (i - 8)) := b_shl 8 (by omega) x hi
theorem b_shl16 (x : Int32) {i : Nat} (hi : i < 32) : bt (x <<< ((16 : Int32) &&& 31)) i = (decide (16 ≤ i) && bt x (i - 16)) := b_shl 16 (by omega) x hi
theorem b_shl24 (x : Int32) {i : Nat} (hi : i < 32) : bt (x <<< ((24 : Int32) &&& 31)) i = (decide (24 ≤ i) && bt x (i - 24)) := b_shl 24 (by omega) x hi
theorem b_sshr8 (x : Int32) {i : Nat} (hi : i < 32) : bt (x >>> ((8 : Int32) &&& 31)) i = if 8 + i < 32 then bt x (8 + i) else bt x 31 := b_sshr 8 (by omega) x hi
/-! ===== nI under and, xor, >>>, one bit, 65535 ===== -/
theorem nx_and (a b : Nat) : nI a &&& nI b = nI (a &&& b) := by
  apply Int32.toBitVec_inj.1
  show BitVec.ofNat 32 a &&& BitVec.ofNat 32 b = BitVec.ofNat 32 (a &&& b)
  apply BitVec.eq_of_getLsbD_eq
  intro i hi
  simp [hi]
theorem nx_xor (a b : Nat) : nI a ^^^ nI b = nI (a ^^^ b) := by
  apply Int32.toBitVec_inj.1
  show BitVec.ofNat 32 a ^^^ BitVec.ofNat 32 b = BitVec.ofNat 32 (a ^^^ b)
  apply BitVec.eq_of_getLsbD_eq
  intro i hi
  simp [hi]
theorem J_nn {z : Int} (h : 0 ≤ z) : J z = nI z.toNat := by
  show Int32.ofInt z = Int32.ofNat z.toNat
  rw [← Int32.ofInt_eq_ofNat, Int.toNat_of_nonneg h]
theorem J_nI (n : Nat) : J (n : Int) = nI n := Int32.ofInt_eq_ofNat
theorem J_tb {z p : Int} (z0 : 0 ≤ z) (z1 : z < 2147483648) (p0 : 0 ≤ p) (p1 : p < 32) : (J z >>> (J p &&& J 31)) &&& J 1 = J (if z.toNat.testBit p.toNat then 1 else 0) := by
  rw [J_nn z0, J_nn p0, ← J_lit 31, ← J_lit 1, pk_shrN (by omega) _ p.toNat (s_l _ (by omega))]
  show nI _ &&& nI 1 = _
  rw [nx_and, Nat.and_one_is_mod, Nat.testBit_eq_decide_div_mod_eq]
  generalize z.toNat / 2 ^ p.toNat = y
  have h : y % 2 = 0 ∨ y % 2 = 1 := by omega
  rcases h with h | h
  · rw [h]
    rfl
  · rw [h]
    rfl
theorem J_shl1 {p : Int} (p0 : 0 ≤ p) (p1 : p < 31) : J 1 <<< (J p &&& J 31) = nI (2 ^ p.toNat) := by
  rw [J_nn p0, ← J_lit 31, ← J_lit 1]
  show nI 1 <<< (nI p.toNat &&& 31) = _
  have : (2 : Nat) ^ p.toNat ≤ 2 ^ 30 := Nat.pow_le_pow_right (by omega) (by omega)
  rw [pk_shlN _ p.toNat (s_l _ (by omega)) (by omega), Nat.one_mul]
theorem J_xor1 {z p : Int} (z0 : 0 ≤ z) (p0 : 0 ≤ p) (p1 : p < 31) : J z ^^^ (J 1 <<< (J p &&& J 31)) = J ((z.toNat ^^^ 2 ^ p.toNat : Nat) : Int) := by
  rw [J_shl1 p0 p1, J_nn z0, nx_xor, J_nI]
theorem J_or1 {z p : Int} (z0 : 0 ≤ z) (p0 : 0 ≤ p) (p1 : p < 31) : J z ||| (J 1 <<< (J p &&& J 31)) = J ((z.toNat ||| 2 ^ p.toNat : Nat) : Int) := by
  rw [J_shl1 p0 p1, J_nn z0, J_nI]
  refine b_ext fun i hi => ?_
  rw [b_or]
  unfold bt
  show ((BitVec.ofNat 32 _).getLsbD i || (BitVec.ofNat 32 _).getLsbD i) = (BitVec.ofNat 32 _).getLsbD i
  simp [hi]
/-- a bit that is set is taken out -/
theorem J_clr1 {z p : Int} (z0 : 0 ≤ z) (p0 : 0 ≤ p) (p1 : p < 31) (hb : z.toNat.testBit p.toNat = true) : J z &&& ((J 1 <<< (J p &&& J 31)) ^^^ J (-1)) = J ((z.toNat ^^^ 2 ^ p.toNat : Nat) : Int) := by
  rw [J_shl1 p0 p1, J_nn z0, J_nI, show J (-1) = -1 from rfl]
  refine b_ext fun i hi => ?_
  rw [b_and, b_xor, b_m1 i hi]
  unfold bt
  show ((BitVec.ofNat 32 _).getLsbD i && ((BitVec.ofNat 32 _).getLsbD i ^^ true)) = (BitVec.ofNat 32 _).getLsbD i
  simp only [BitVec.getLsbD_ofNat, hi, decide_true, Bool.true_and, Nat.testBit_xor, Nat.testBit_two_pow]
  by_cases e : p.toNat = i
  · subst e
    simp [hb]
  · simp [e]
theorem tb_xor (n k i : Nat) : (n ^^^ 2 ^ k).testBit i = if i = k then !n.testBit i else n.testBit i := by
  rw [Nat.testBit_xor, Nat.testBit_two_pow]
  by_cases e : i = k
  · rw [if_pos e, decide_eq_true e.symm, Bool.xor_true]
  · rw [if_neg e, decide_eq_false (fun z => e z.symm), Bool.xor_false]
theorem tb_or (n k i : Nat) : (n ||| 2 ^ k).testBit i = if i = k then true else n.testBit i := by
  rw [Nat.testBit_or, Nat.testBit_two_pow]
  by_cases e : i = k
  · rw [if_pos e, decide_eq_true e.symm, Bool.or_true]
  · rw [if_neg e, decide_eq_false (fun z => e z.symm), Bool.or_false]
theorem xor_lt {n k b : Nat} (h : n < 2 ^ b) (hk : k < b) : n ^^^ 2 ^ k < 2 ^ b := Nat.xor_lt_two_pow h (Nat.pow_lt_pow_right (by omega) hk)
theorem or_lt {n k b : Nat} (h : n < 2 ^ b) (hk : k < b) : n ||| 2 ^ k < 2 ^ b := Nat.or_lt_two_pow h (Nat.pow_lt_pow_right (by omega) hk)
theorem mMax_comm (x y : Int32) : mMax x y = mMax y x := by
  unfold mMax
  by_cases h : x < y
  · rw [if_pos h, if_neg (fun h2 => by rw [Int32.lt_iff_toInt_lt] at *; omega)]
  · by_cases h2 : y < x
    · rw [if_neg h, if_pos h2]
    · rw [if_neg h, if_neg h2]
      rw [Int32.lt_iff_toInt_lt] at *
      exact Int32.toInt_inj.mp (by omega)
theorem De.sh {f : Nat → xO} {r : xR} {P : xH} (k : Nat) (h : De f r P) : De (fun n => f (n + k)) r P := by
  obtain ⟨n0, h⟩ := h
  exact ⟨n0, fun n hn => h (n + k) (by omega)⟩
theorem Dq.sh {f : Nat → xO} {Q : xR → xH → Prop} (k : Nat) (h : Dq f Q) : Dq (fun n => f (n + k)) Q := by
  obtain ⟨r, P, h, hQ⟩ := h
  exact ⟨r, P, h.sh k, hQ⟩
