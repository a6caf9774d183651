/-! rules, rows, descriptions, words, walks and help become others -/
theorem cpr_ne {m : Nat → Int → Int} {x y n c : Nat} {i : Int} (h : c ≠ y) : cpr m x y n c i = m c i := if_neg (fun z => h z.1)
theorem cpr_at {m : Nat → Int → Int} {x y n : Nat} {i : Int} (h0 : 0 ≤ i) (h1 : i < n) : cpr m x y n y i = m x i := if_pos ⟨rfl, h0, h1⟩
theorem cps_ne {m : Nat → Int → Int} {x y r n c : Nat} {i : Int} (h : c ≤ y ∨ y + r < c) : cps m x y r n c i = m c i := if_neg (fun z => by omega)
theorem cps_at {m : Nat → Int → Int} {x y r n k : Nat} {i : Int} (hk : 1 ≤ k) (hr : k ≤ r) (h0 : 0 ≤ i) (h1 : i < n) : cps m x y r n (y + k) i = m (x + k) i := by
  unfold cps
  rw [if_pos ⟨by omega, h0, h1⟩, show x + (y + k - y) = x + k by omega]
def bRul (m : Nat → Int → Int) (a b : Nat) : Nat → Int → Int := up (up (cpr (cpr (cpr (cpr (m) (b + 1) (a + 1) 10) (b + 2) (a + 2) 10) (b + 3) (a + 3) 11) (b + 4) (a + 4) 200) a 3 (m b 3)) a 5 (m b 5)
theorem e_RulBecome {S : xH} {m : Nat → Int → Int} {q : Nat → Int → Int64} {a b : Nat} (ha : RulS S a) (hb : RulS S b) (hd : a + 6 ≤ b ∨ b + 6 ≤ a) (n : Nat) : f_X5_become (n + 2) 0 [.ref a, .ref b] (hp S m q) = some (.inl none, hp S (bRul m a b) q) := by
  unfold bRul
  rw [j_X5_become_0]
  simp (disch := omega) only [b_X5_become_0, Rul0_r0 ha, Rul0_r0 hb, Rul0_r1 ha, Rul0_r1 hb, Rul0_r2 ha, Rul0_r2 hb, Rul0_r4 ha, Rul0_r4 hb, Rul0_i3 hb, Rul0_w3 ha, Rul0_i5 hb, Rul0_w5 ha, e_copyRow (hb.2.1) (ha.2.1) (show 10 < 2147483648 by decide), e_copyRow (hb.2.2.1) (ha.2.2.1) (show 10 < 2147483648 by decide), e_copyRow (hb.2.2.2.1) (ha.2.2.2.1) (show 11 < 2147483648 by decide), e_copyRow (hb.2.2.2.2.1) (ha.2.2.2.2.1) (show 200 < 2147483648 by decide), xU, Option.bind_some, cpr_ne, up_a]
theorem bRul_out {m : Nat → Int → Int} {a b c : Nat} {i : Int} (h : c < a ∨ a + 6 ≤ c) : bRul m a b c i = m c i := by
  unfold bRul cpr
  simp only [up_get]
  repeat rw [if_neg (by omega)]
def bRow (m : Nat → Int → Int) (a b : Nat) : Nat → Int → Int := up (cpr (cpr (m) (b + 1) (a + 1) 8) (b + 2) (a + 2) 8) a 2 (m b 2)
theorem e_RowBecome {S : xH} {m : Nat → Int → Int} {q : Nat → Int → Int64} {a b : Nat} (ha : RowS S a) (hb : RowS S b) (hd : a + 3 ≤ b ∨ b + 3 ≤ a) (n : Nat) : f_X4_become (n + 2) 0 [.ref a, .ref b] (hp S m q) = some (.inl none, hp S (bRow m a b) q) := by
  unfold bRow
  rw [j_X4_become_0]
  simp (disch := omega) only [b_X4_become_0, Row0_r0 ha, Row0_r0 hb, Row0_r1 ha, Row0_r1 hb, Row0_i2 hb, Row0_w2 ha, e_copyRow (hb.2.1) (ha.2.1) (show 8 < 2147483648 by decide), e_copyRow (hb.2.2) (ha.2.2) (show 8 < 2147483648 by decide), xU, Option.bind_some, cpr_ne, up_a]
theorem bRow_out {m : Nat → Int → Int} {a b c : Nat} {i : Int} (h : c < a ∨ a + 3 ≤ c) : bRow m a b c i = m c i := by
  unfold bRow cpr
  simp only [up_get]
  repeat rw [if_neg (by omega)]
def bPar (m : Nat → Int → Int) (a b : Nat) : Nat → Int → Int := up (up (cpr (cpr (cpr (m) (b + 1) (a + 1) 7) (b + 2) (a + 2) 7) (b + 3) (a + 3) 7) a 5 (m b 5)) a 6 (m b 6)
theorem e_ParBecome {S : xH} {m : Nat → Int → Int} {q : Nat → Int → Int64} {a b : Nat} (ha : ParS S a) (hb : ParS S b) (hd : a + 6 ≤ b ∨ b + 6 ≤ a) (n : Nat) : f_X2_become (n + 2) 0 [.ref a, .ref b] (hp S m q) = some (.inl none, hp S (bPar m a b) q) := by
  unfold bPar
  rw [j_X2_become_0]
  simp (disch := omega) only [b_X2_become_0, Par0_r0 ha, Par0_r0 hb, Par0_r1 ha, Par0_r1 hb, Par0_r2 ha, Par0_r2 hb, Par0_i5 hb, Par0_w5 ha, Par0_i6 hb, Par0_w6 ha, e_copyRow (hb.2.1) (ha.2.1) (show 7 < 2147483648 by decide), e_copyRow (hb.2.2.1) (ha.2.2.1) (show 7 < 2147483648 by decide), e_copyRow (hb.2.2.2.1) (ha.2.2.2.1) (show 7 < 2147483648 by decide), xU, Option.bind_some, cpr_ne, up_a]
theorem bPar_out {m : Nat → Int → Int} {a b c : Nat} {i : Int} (h : c < a ∨ a + 6 ≤ c) : bPar m a b c i = m c i := by
  unfold bPar cpr
  simp only [up_get]
  repeat rw [if_neg (by omega)]
