/-! a pile of bits in a long -/
abbrev b1 (b : Bool) : Nat := if b = true then 1 else 0
def enB : List Bool → Nat
  | [] => 1
  | b :: r => 2 * enB r + b1 b
theorem b1_lt (b : Bool) : b1 b < 2 := by cases b <;> decide
theorem enB_lt : ∀ st : List Bool, enB st < 2 ^ (st.length + 1)
  | [] => by decide
  | b :: r => by
    have a := enB_lt r
    have c := b1_lt b
    rw [enB, List.length_cons, Nat.pow_succ]
    omega
theorem enB_62 {st : List Bool} (h : st.length ≤ 60) : enB st < 2 ^ 61 := Nat.lt_of_lt_of_le (enB_lt st) (Nat.pow_le_pow_right (by omega) (by omega))
theorem lg (i n : Nat) (hi : i < 64) : (lN n).toBitVec.getLsbD i = n.testBit i := by
  show (BitVec.ofNat 64 n).getLsbD i = _
  rw [BitVec.getLsbD_ofNat, decide_eq_true hi, Bool.true_and]
theorem l_ext {x y : Int64} (h : ∀ i, i < 64 → x.toBitVec.getLsbD i = y.toBitVec.getLsbD i) : x = y := Int64.toBitVec_inj.mp (BitVec.eq_of_getLsbD_eq (fun i hi => h i hi))
theorem l_or (a b : Nat) : lN a ||| lN b = lN (a ||| b) := l_ext fun i hi => by
  rw [Int64.toBitVec_or, BitVec.getLsbD_or, lg i _ hi, lg i _ hi, lg i _ hi, Nat.testBit_or]
theorem l_xor (a b : Nat) : lN a ^^^ lN b = lN (a ^^^ b) := l_ext fun i hi => by
  rw [Int64.toBitVec_xor, BitVec.getLsbD_xor, lg i _ hi, lg i _ hi, lg i _ hi, Nat.testBit_xor]
theorem l_shl1 (a : Nat) : lN a <<< (Int32.toInt64 (J 1) &&& 63) = lN (2 * a) := by
  apply Int64.toBitVec_inj.mp
  show (BitVec.ofNat 64 a) <<< ((Int32.toInt64 (J 1) &&& 63).toBitVec.smod 64) = BitVec.ofNat 64 (2 * a)
  rw [show (Int32.toInt64 (J 1) &&& 63).toBitVec.smod 64 = 1#64 from by decide +kernel]
  apply BitVec.eq_of_toNat_eq
  simp [BitVec.toNat_shiftLeft, Nat.shiftLeft_eq, Nat.mul_comm]
theorem l_shr1 {a : Nat} (h : a < 2 ^ 62) : lN a >>> (Int32.toInt64 (J 1) &&& 63) = lN (a / 2) := pf_shr (d := 1) (by decide +kernel) h
theorem l_and1 (a : Nat) : lN a &&& 1 = lN (a % 2) := by
  show lN a &&& lN 1 = _
  rw [fb_andL, Nat.and_one_is_mod]
theorem n_bit0 (e : Nat) {c : Nat} (h : c < 2) : (2 * e + c) / 2 = e ∧ (2 * e + c) % 2 = c := by omega
theorem n_xor1 (e : Nat) (b : Bool) : (2 * e + b1 b) ^^^ 1 = 2 * e + b1 (!b) := by
  refine Nat.eq_of_testBit_eq fun i => ?_
  rw [Nat.testBit_xor]
  cases i with
  | zero => rw [Nat.testBit_zero, Nat.testBit_zero, Nat.testBit_zero, (n_bit0 e (b1_lt b)).2, (n_bit0 e (b1_lt (!b))).2]; cases b <;> rfl
  | succ i => rw [Nat.testBit_succ, Nat.testBit_succ, Nat.testBit_succ, (n_bit0 e (b1_lt b)).1, (n_bit0 e (b1_lt (!b))).1, show 1 / 2 = 0 from rfl, Nat.zero_testBit, Bool.xor_false]
theorem n_or1 (e : Nat) (a b : Bool) : (2 * e + b1 a) ||| b1 b = 2 * e + b1 (a || b) := by
  refine Nat.eq_of_testBit_eq fun i => ?_
  rw [Nat.testBit_or]
  cases i with
  | zero => rw [Nat.testBit_zero, Nat.testBit_zero, Nat.testBit_zero, (n_bit0 e (b1_lt a)).2, (n_bit0 e (b1_lt (a || b))).2]; cases a <;> cases b <;> rfl
  | succ i => rw [Nat.testBit_succ, Nat.testBit_succ, Nat.testBit_succ, (n_bit0 e (b1_lt a)).1, (n_bit0 e (b1_lt (a || b))).1, show b1 b / 2 = 0 by have := b1_lt b; omega, Nat.zero_testBit, Bool.or_false]
theorem l_m2 : ∀ i, i < 64 → ((-2 : Int64)).toBitVec.getLsbD i = decide (1 ≤ i) := by decide +kernel
theorem l_m1 : ∀ i, i < 64 → ((-1 : Int64)).toBitVec.getLsbD i = true := by decide +kernel
theorem l_push (a : Nat) (b : Bool) : (lN a <<< (Int32.toInt64 (J 1) &&& 63)) ||| Int32.toInt64 (J (if b = true then 1 else 0)) = lN (2 * a + b1 b) := by
  have e : Int32.toInt64 (J (if b = true then 1 else 0)) = lN (b1 b) := by cases b <;> decide +kernel
  have z : 2 * a ||| b1 b = 2 * a + b1 b := by
    have := n_or1 a false b
    rw [Bool.false_or] at this
    exact this
  rw [l_shl1, e, l_or, z]
theorem l_not (e : Nat) (b : Bool) : lN (2 * e + b1 b) ^^^ 1 = lN (2 * e + b1 (!b)) := by
  show lN _ ^^^ lN 1 = _
  rw [l_xor, n_xor1]
theorem l_orT (e : Nat) (a b : Bool) (h : 2 * (2 * e + b1 a) + b1 b < 2 ^ 62) : (lN (2 * (2 * e + b1 a) + b1 b) >>> (Int32.toInt64 (J 1) &&& 63)) ||| (lN (2 * (2 * e + b1 a) + b1 b) &&& 1) = lN (2 * e + b1 (a || b)) := by
  rw [l_shr1 h, l_and1, (n_bit0 _ (b1_lt b)).1, (n_bit0 _ (b1_lt b)).2, l_or, n_or1]
theorem l_andT (e : Nat) (a b : Bool) (h : 2 * (2 * e + b1 a) + b1 b < 2 ^ 62) : (lN (2 * (2 * e + b1 a) + b1 b) >>> (Int32.toInt64 (J 1) &&& 63)) &&& ((-2) ||| (lN (2 * (2 * e + b1 a) + b1 b) &&& 1)) = lN (2 * e + b1 (a && b)) := by
  rw [l_shr1 h, l_and1, (n_bit0 _ (b1_lt b)).1, (n_bit0 _ (b1_lt b)).2]
  cases b with
  | true =>
    rw [show ((-2 : Int64) ||| lN (b1 true)) = -1 from by decide +kernel, Bool.and_true]
    exact l_ext fun i hi => by rw [Int64.toBitVec_and, BitVec.getLsbD_and, l_m1 i hi, Bool.and_true]
  | false =>
    rw [show ((-2 : Int64) ||| lN (b1 false)) = -2 from by decide +kernel, Bool.and_false]
    refine l_ext fun i hi => ?_
    rw [Int64.toBitVec_and, BitVec.getLsbD_and, l_m2 i hi, lg i _ hi, lg i _ hi]
    cases i with
    | zero => rw [Nat.testBit_zero, Nat.testBit_zero, (n_bit0 e (b1_lt false)).2, decide_eq_false (show ¬ 1 ≤ 0 by omega), Bool.and_false]; rfl
    | succ i => rw [Nat.testBit_succ, Nat.testBit_succ, (n_bit0 e (b1_lt a)).1, (n_bit0 e (b1_lt false)).1, decide_eq_true (show 1 ≤ i + 1 by omega), Bool.and_true]
def hdB : List Bool → Bool
  | [] => true
  | b :: _ => b
theorem lb_end (st : List Bool) : (lg_cmp (lN (enB st) &&& 1) 0 = J 0) = (hdB st = false) := by
  rw [l_and1]
  have e : enB st % 2 = b1 (hdB st) := by
    cases st with
    | nil => rfl
    | cons b r => rw [enB, (n_bit0 _ (b1_lt b)).2]; rfl
  rw [e]
  cases hdB st with
  | true => exact propext ⟨fun h => absurd h (by decide +kernel), fun h => Bool.noConfusion h⟩
  | false => exact propext ⟨fun _ => rfl, fun _ => by decide +kernel⟩
/-- parts of a kept step -/
theorem J_mod16 {z : Int} (z0 : 0 ≤ z) : J z &&& J 15 = J (z % 16) := by
  rw [J_nn z0, ← J_lit 15]
  show nI _ &&& nI 15 = _
  rw [nx_and, show (15 : Nat) = 2 ^ 4 - 1 from rfl, Nat.and_two_pow_sub_one_eq_mod, ← J_nI]
  congr 1
  omega
theorem J_shr4 {z : Int} (z0 : 0 ≤ z) (z1 : z < 2147483648) : J z >>> (J 4 &&& J 31) = J (z / 16) := by
  rw [J_nn z0, J_nn (show (0 : Int) ≤ 4 by omega), ← J_lit 31]
  show nI z.toNat >>> (nI 4 &&& 31) = _
  rw [pk_shrN (by omega) _ 4 (s_l 4 (by omega)), ← J_nI]
  congr 1
  omega
theorem J_shr8 {z : Int} (z0 : 0 ≤ z) (z1 : z < 2147483648) : J z >>> (J 8 &&& J 31) = J (z / 256) := by
  rw [J_nn z0, J_nn (show (0 : Int) ≤ 8 by omega), ← J_lit 31]
  show nI z.toNat >>> (nI 8 &&& 31) = _
  rw [pk_shrN (by omega) _ 8 (s_l 8 (by omega)), ← J_nI]
  congr 1
  omega
/-! what stands behind an if -/
def stB (T : Nat) (fc : Int → Int) (s t : Int) (st : List Bool) : List Bool :=
  if s = 300 then (match st with | b :: r => (!b) :: r | [] => [])
  else if s = 301 then (match st with | b :: a :: r => (a && b) :: r | x => x)
  else if 301 < s then (match st with | b :: a :: r => (a || b) :: r | x => x)
  else if s < 7 then T.testBit s.toNat :: st
  else if s < 200 then decide (fc (s - 100) < t) :: st
  else decide (t < fc (s - 200)) :: st
def runS (g : Int → Int) (T : Nat) (fc : Int → Int) : Nat → Int → List Bool → List Bool
  | 0, _, st => st
  | n + 1, i, st => runS g T fc n (i + 1) (stB T fc (g (41 + 2 * i)) (g (41 + 2 * i + 1)) st)
def holS (g : Int → Int) (T : Nat) (fc : Int → Int) (l : Int) : Bool := hdB (runS g T fc (g (1 + 4 * l + 3) - g (1 + 4 * l + 2)).toNat (g (1 + 4 * l + 2)) [])
/-- how deep the pile is -/
theorem wfS_step {g : Int → Int} {T : Nat} {fc : Int → Int} {i e : Int} {n : Nat} {st : List Bool} (h : wfS g i (n + 1) st.length = some e) : wfS g (i + 1) n (stB T fc (g (41 + 2 * i)) (g (41 + 2 * i + 1)) st).length = some e ∧ (g (41 + 2 * i) = 300 → 1 ≤ st.length) ∧ (300 < g (41 + 2 * i) → 2 ≤ st.length) ∧ (g (41 + 2 * i) < 300 → st.length < 60) := by
  rw [wfS] at h
  unfold stB
  by_cases c1 : g (41 + 2 * i) = 300
  · rw [if_pos c1] at h ⊢
    by_cases d : 1 ≤ (st.length : Int)
    · rw [if_pos d] at h
      cases st with
      | nil => simp at d
      | cons b r => exact ⟨h, fun _ => by omega, fun z => by omega, fun z => by omega⟩
    · rw [if_neg d] at h
      cases h
  · rw [if_neg c1] at h ⊢
    by_cases c2 : 300 < g (41 + 2 * i)
    · rw [if_pos c2] at h
      by_cases d : 2 ≤ (st.length : Int)
      · rw [if_pos d] at h
        match st, d, h with
        | b :: a :: r, d, h =>
          have hl : ∀ x : Bool, (((x :: r).length : Nat) : Int) = (((b :: a :: r).length : Nat) : Int) - 1 := fun x => by simp only [List.length_cons]; omega
          rw [← hl true] at h
          by_cases c3 : g (41 + 2 * i) = 301
          · rw [if_pos c3]
            exact ⟨h, fun z => by omega, fun _ => by simp only [List.length_cons]; omega, fun z => by omega⟩
          · rw [if_neg c3, if_pos (by omega)]
            exact ⟨h, fun z => by omega, fun _ => by simp only [List.length_cons]; omega, fun z => by omega⟩
        | [b], d, h => simp at d
        | [], d, h => simp at d
      · rw [if_neg d] at h
        cases h
    · rw [if_neg c2] at h
      by_cases d : (st.length : Int) < 60
      · rw [if_pos d] at h
        rw [if_neg (by omega), if_neg (by omega)]
        have hl : ∀ x : Bool, (((x :: st).length : Nat) : Int) = (st.length : Int) + 1 := fun x => by simp only [List.length_cons]; omega
        rw [← hl true] at h
        split
        · exact ⟨h, fun z => by omega, fun z => by omega, fun _ => by omega⟩
        · split
          · exact ⟨h, fun z => by omega, fun z => by omega, fun _ => by omega⟩
          · exact ⟨h, fun z => by omega, fun z => by omega, fun _ => by omega⟩
      · rw [if_neg d] at h
        cases h
