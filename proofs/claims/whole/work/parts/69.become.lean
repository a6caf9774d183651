/-! a net becomes another -/
def nbM (m : Nat → Int → Int) (a b : Nat) : Nat → Int → Int := cpr (cpr (cpr (cpr (cps (cps (up (up (up m a 2 (m b 2)) a 3 (m b 3)) a 4 (m b 4)) (b + 1) (a + 1) 8 10) (b + 10) (a + 10) 4 300) (b + 16) (a + 16) 10) (b + 17) (a + 17) 30) (b + 18) (a + 18) 30) (b + 19) (a + 19) 30
def nbQ (q : Nat → Int → Int64) (a b : Nat) : Nat → Int → Int64 := cpq (cpq q (b + 15) (a + 15) 300) (b + 20) (a + 20) 30
theorem NetS.st {S : xH} {a w r : Nat} (h : NetS S a w r) : ∀ i, i < 8 → S.2.2 (a + 1 + 1 + i) = aSh .int 10 := by
  intro i hi
  obtain ⟨h0, h1, h2, h3, h4, h5, h6, h7, h8, h9, -⟩ := h
  rcases (show i = 0 ∨ i = 1 ∨ i = 2 ∨ i = 3 ∨ i = 4 ∨ i = 5 ∨ i = 6 ∨ i = 7 by omega) with rfl | rfl | rfl | rfl | rfl | rfl | rfl | rfl
  · exact h2
  · exact h3
  · exact h4
  · exact h5
  · exact h6
  · exact h7
  · exact h8
  · exact h9
theorem NetS.cp {S : xH} {a w r : Nat} (h : NetS S a w r) : ∀ i, i < 4 → S.2.2 (a + 10 + 1 + i) = aSh .int 300 := by
  intro i hi
  obtain ⟨h0, h1, h2, h3, h4, h5, h6, h7, h8, h9, h10, h11, h12, h13, h14, -⟩ := h
  rcases (show i = 0 ∨ i = 1 ∨ i = 2 ∨ i = 3 by omega) with rfl | rfl | rfl | rfl
  · exact h11
  · exact h12
  · exact h13
  · exact h14
theorem q_netBecome {S : xH} {m : Nat → Int → Int} {q : Nat → Int → Int64} {a b w r w' r' : Nat} (ha : NetS S a w r) (hb : NetS S b w' r') (hd : a + 22 ≤ b ∨ b + 22 ≤ a) : De (fun n => f_X1_become n 0 [.ref a, .ref b] (hp S m q)) (.inl none) (hp S (nbM m a b) (nbQ q a b)) := by
  have hba : b ≠ a := by omega
  have a0 := ha
  have b0 := hb
  obtain ⟨-, a1, -, -, -, -, -, -, -, -, a10, -, -, -, -, a15, a16, a17, a18, a19, a20, -⟩ := a0
  obtain ⟨-, b1, -, -, -, -, -, -, -, -, b10, -, -, -, -, b15, b16, b17, b18, b19, b20, -⟩ := b0
  refine De.stepk 4 ?_
  simp only [j_X1_become_0]
  simp only [b_X1_become_0, Net0_i2 hb, Net0_w2 ha, Net0_i3 hb, Net0_w3 ha, Net0_i4 hb, Net0_w4 ha, Net0_r5 ha, Net0_r5 hb, Option.bind_some, up_a hba]
  refine De.call ((q_copyRows (S := S) b1 a1 hb.st ha.st (by decide) (by decide) (by omega)).sh 3) ?_
  simp only [xU, Net0_r6 ha, Net0_r6 hb, Option.bind_some]
  refine De.call ((q_copyRows (S := S) b10 a10 hb.cp ha.cp (by decide) (by decide) (by omega)).sh 3) ?_
  simp only [xU, Net0_r7 ha, Net0_r7 hb, Option.bind_some, Net15_l ha, J_lit 0]
  simp only [cpJ_hp b15 a15 (show 300 < 2147483648 by decide), show J 300 = J ((300 : Nat) : Int) from rfl, Option.bind_some, Net0_r8 ha, Net0_r8 hb, e_copyRow b16 a16 (show 10 < 2147483648 by decide), xU, Net0_r9 ha, Net0_r9 hb, e_copyRow b17 a17 (show 30 < 2147483648 by decide), Net0_r10 ha, Net0_r10 hb, e_copyRow b18 a18 (show 30 < 2147483648 by decide), Net0_r11 ha, Net0_r11 hb, e_copyRow b19 a19 (show 30 < 2147483648 by decide), Net0_r12 ha, Net0_r12 hb, Net20_l ha, cpJ_hp b20 a20 (show 30 < 2147483648 by decide), show J 30 = J ((30 : Nat) : Int) from rfl]
  exact De.ret _ _
/-- where nothing changes, and what is copied -/
theorem nbM_out {m : Nat → Int → Int} {a b c : Nat} {i : Int} (h : c < a ∨ a + 22 ≤ c) : nbM m a b c i = m c i := by
  unfold nbM cpr cps
  simp only [up_get]
  repeat rw [if_neg (by omega)]
theorem nbQ_out {q : Nat → Int → Int64} {a b c : Nat} (h : c < a ∨ a + 22 ≤ c) : nbQ q a b c = q c := by
  funext i
  unfold nbQ cpq
  repeat rw [if_neg (by omega)]
theorem nbM_obj {m : Nat → Int → Int} {a b : Nat} {i : Int} (h0 : 2 ≤ i) (h1 : i ≤ 4) : nbM m a b a i = m b i := by
  have e : nbM m a b a i = up (up (up m a 2 (m b 2)) a 3 (m b 3)) a 4 (m b 4) a i := by
    unfold nbM cpr cps
    repeat rw [if_neg (by omega)]
  rw [e]
  rcases (show i = 2 ∨ i = 3 ∨ i = 4 by omega) with rfl | rfl | rfl
  · rw [up_i (by decide), up_i (by decide), up_at]
  · rw [up_i (by decide), up_at]
  · rw [up_at]
theorem nbM_row {m : Nat → Int → Int} {a b o : Nat} {i : Int} (hd : a + 22 ≤ b ∨ b + 22 ≤ a) (i0 : 0 ≤ i) (h : (2 ≤ o ∧ o ≤ 9 ∧ i < 10) ∨ (11 ≤ o ∧ o ≤ 14 ∧ i < 300) ∨ (o = 16 ∧ i < 10) ∨ (17 ≤ o ∧ o ≤ 19 ∧ i < 30)) : nbM m a b (a + o) i = m (b + o) i := by
  have ub : ∀ o, 1 ≤ o → o < 22 → ∀ i, up (up (up m a 2 (m b 2)) a 3 (m b 3)) a 4 (m b 4) (b + o) i = m (b + o) i := fun o h1 h2 i => by
    rw [up_a (by omega), up_a (by omega), up_a (by omega)]
  have es : ∀ (mm : Nat → Int → Int) (x y r n c : Nat) (i : Int), ¬ ((y < c ∧ c ≤ y + r) ∧ 0 ≤ i ∧ i < (n : Int)) → cps mm x y r n c i = mm c i := fun mm x y r n c i hc => if_neg hc
  have er : ∀ (mm : Nat → Int → Int) (x y n c : Nat) (i : Int), c ≠ y → cpr mm x y n c i = mm c i := fun mm x y n c i hc => if_neg (fun z => hc z.1)
  unfold nbM
  rcases h with h | h | h | h
  · rw [er _ _ _ _ _ _ (by omega), er _ _ _ _ _ _ (by omega), er _ _ _ _ _ _ (by omega), er _ _ _ _ _ _ (by omega), es _ _ _ _ _ _ _ (by omega)]
    unfold cps
    rw [if_pos (by omega), show b + 1 + (a + o - (a + 1)) = b + o by omega, ub o (by omega) (by omega)]
  · rw [er _ _ _ _ _ _ (by omega), er _ _ _ _ _ _ (by omega), er _ _ _ _ _ _ (by omega), er _ _ _ _ _ _ (by omega)]
    have e : cps (cps (up (up (up m a 2 (m b 2)) a 3 (m b 3)) a 4 (m b 4)) (b + 1) (a + 1) 8 10) (b + 10) (a + 10) 4 300 (a + o) i = cps (up (up (up m a 2 (m b 2)) a 3 (m b 3)) a 4 (m b 4)) (b + 1) (a + 1) 8 10 (b + 10 + (a + o - (a + 10))) i := if_pos (by omega)
    rw [e, es _ _ _ _ _ _ _ (by omega), show b + 10 + (a + o - (a + 10)) = b + o by omega, ub o (by omega) (by omega)]
  · obtain ⟨rfl, h2⟩ := h
    rw [er _ _ _ _ _ _ (by omega), er _ _ _ _ _ _ (by omega), er _ _ _ _ _ _ (by omega)]
    have e : cpr (cps (cps (up (up (up m a 2 (m b 2)) a 3 (m b 3)) a 4 (m b 4)) (b + 1) (a + 1) 8 10) (b + 10) (a + 10) 4 300) (b + 16) (a + 16) 10 (a + 16) i = cps (cps (up (up (up m a 2 (m b 2)) a 3 (m b 3)) a 4 (m b 4)) (b + 1) (a + 1) 8 10) (b + 10) (a + 10) 4 300 (b + 16) i := if_pos ⟨rfl, by omega, by omega⟩
    rw [e, es _ _ _ _ _ _ _ (by omega), es _ _ _ _ _ _ _ (by omega), ub 16 (by omega) (by omega)]
  · have fr : ∀ (o' : Nat), 17 ≤ o' → o' ≤ 19 → ∀ (mm : Nat → Int → Int), (∀ c i, mm c i = cpr (cps (cps (up (up (up m a 2 (m b 2)) a 3 (m b 3)) a 4 (m b 4)) (b + 1) (a + 1) 8 10) (b + 10) (a + 10) 4 300) (b + 16) (a + 16) 10 c i) → mm (b + o') i = m (b + o') i := fun o' g1 g2 mm hm => by
      rw [hm, er _ _ _ _ _ _ (by omega), es _ _ _ _ _ _ _ (by omega), es _ _ _ _ _ _ _ (by omega), ub o' (by omega) (by omega)]
    rcases (show o = 17 ∨ o = 18 ∨ o = 19 by omega) with rfl | rfl | rfl
    · rw [er _ _ _ _ _ _ (by omega), er _ _ _ _ _ _ (by omega)]
      refine (if_pos ⟨rfl, i0, by omega⟩).trans ?_
      exact fr 17 (by omega) (by omega) _ (fun _ _ => rfl)
    · rw [er _ _ _ _ _ _ (by omega)]
      refine (if_pos ⟨rfl, i0, by omega⟩).trans ?_
      rw [er _ _ _ _ _ _ (by omega)]
      exact fr 18 (by omega) (by omega) _ (fun _ _ => rfl)
    · refine (if_pos ⟨rfl, i0, by omega⟩).trans ?_
      rw [er _ _ _ _ _ _ (by omega), er _ _ _ _ _ _ (by omega)]
      exact fr 19 (by omega) (by omega) _ (fun _ _ => rfl)
theorem nbQ_row {q : Nat → Int → Int64} {a b o : Nat} {i : Int} (hd : a + 22 ≤ b ∨ b + 22 ≤ a) (i0 : 0 ≤ i) (h : (o = 15 ∧ i < 300) ∨ (o = 20 ∧ i < 30)) : nbQ q a b (a + o) i = q (b + o) i := by
  unfold nbQ cpq
  rcases h with ⟨rfl, h⟩ | ⟨rfl, h⟩
  · rw [if_neg (by omega), if_pos ⟨rfl, i0, by omega⟩]
  · rw [if_pos ⟨rfl, i0, by omega⟩, if_neg (by omega)]
