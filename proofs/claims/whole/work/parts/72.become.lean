/-! words, walks and help become others -/
def bWrd (m : Nat → Int → Int) (a b : Nat) : Nat → Int → Int := up (cpr (cpr (cps (m) (b + 1) (a + 1) 9 30) (b + 11) (a + 11) 30) (b + 12) (a + 12) 30) a 3 (m b 3)
theorem WrdS.m1 {S : xH} {a : Nat} (ha : WrdS S a) : ∀ i, i < 9 → S.2.2 (a + 1 + 1 + i) = aSh .int 30 := by
  intro i hi
  rcases (show i = 0 ∨ i = 1 ∨ i = 2 ∨ i = 3 ∨ i = 4 ∨ i = 5 ∨ i = 6 ∨ i = 7 ∨ i = 8 by omega) with rfl | rfl | rfl | rfl | rfl | rfl | rfl | rfl | rfl
  · exact ha.2.2.1
  · exact ha.2.2.2.1
  · exact ha.2.2.2.2.1
  · exact ha.2.2.2.2.2.1
  · exact ha.2.2.2.2.2.2.1
  · exact ha.2.2.2.2.2.2.2.1
  · exact ha.2.2.2.2.2.2.2.2.1
  · exact ha.2.2.2.2.2.2.2.2.2.1
  · exact ha.2.2.2.2.2.2.2.2.2.2.1
theorem q_WrdBecome {S : xH} {m : Nat → Int → Int} {q : Nat → Int → Int64} {a b : Nat} (ha : WrdS S a) (hb : WrdS S b) (hd : a + 13 ≤ b ∨ b + 13 ≤ a) : De (fun n => f_X9_become n 0 [.ref a, .ref b] (hp S m q)) (.inl none) (hp S (bWrd m a b) q) := by
  unfold bWrd
  refine De.stepk 3 ?_
  simp only [j_X9_become_0, b_X9_become_0]
  simp (disch := omega) only [Wrd0_r0 ha, Wrd0_r0 hb, Wrd0_r1 ha, Wrd0_r1 hb, Wrd0_r2 ha, Wrd0_r2 hb, Wrd0_i3 hb, Wrd0_w3 ha, e_copyRow (hb.2.2.2.2.2.2.2.2.2.2.2.1) (ha.2.2.2.2.2.2.2.2.2.2.2.1) (show 30 < 2147483648 by decide), e_copyRow (hb.2.2.2.2.2.2.2.2.2.2.2.2) (ha.2.2.2.2.2.2.2.2.2.2.2.2) (show 30 < 2147483648 by decide), xU, Option.bind_some, cpr_ne, cps_ne, up_a]
  refine De.call ((q_copyRows (S := S) (hb.2.1) (ha.2.1) hb.m1 ha.m1 (by decide) (by decide) (by omega)).sh 2) ?_
  simp (disch := omega) only [Wrd0_r0 ha, Wrd0_r0 hb, Wrd0_r1 ha, Wrd0_r1 hb, Wrd0_r2 ha, Wrd0_r2 hb, Wrd0_i3 hb, Wrd0_w3 ha, e_copyRow (hb.2.2.2.2.2.2.2.2.2.2.2.1) (ha.2.2.2.2.2.2.2.2.2.2.2.1) (show 30 < 2147483648 by decide), e_copyRow (hb.2.2.2.2.2.2.2.2.2.2.2.2) (ha.2.2.2.2.2.2.2.2.2.2.2.2) (show 30 < 2147483648 by decide), xU, Option.bind_some, cpr_ne, cps_ne, up_a]
  exact De.ret _ _
theorem bWrd_out {m : Nat → Int → Int} {a b c : Nat} {i : Int} (h : c < a ∨ a + 13 ≤ c) : bWrd m a b c i = m c i := by
  unfold bWrd cpr cps
  simp only [up_get]
  repeat rw [if_neg (by omega)]
def bWlk (m : Nat → Int → Int) (a b : Nat) : Nat → Int → Int := cpr (cps (cps (cps (m) (b + 1) (a + 1) 4 60) (b + 6) (a + 6) 4 60) (b + 11) (a + 11) 4 60) (b + 16) (a + 16) 4
theorem WlkS.m1 {S : xH} {a : Nat} (ha : WlkS S a) : ∀ i, i < 4 → S.2.2 (a + 1 + 1 + i) = aSh .int 60 := by
  intro i hi
  rcases (show i = 0 ∨ i = 1 ∨ i = 2 ∨ i = 3 by omega) with rfl | rfl | rfl | rfl
  · exact ha.2.2.1
  · exact ha.2.2.2.1
  · exact ha.2.2.2.2.1
  · exact ha.2.2.2.2.2.1
theorem WlkS.m6 {S : xH} {a : Nat} (ha : WlkS S a) : ∀ i, i < 4 → S.2.2 (a + 6 + 1 + i) = aSh .int 60 := by
  intro i hi
  rcases (show i = 0 ∨ i = 1 ∨ i = 2 ∨ i = 3 by omega) with rfl | rfl | rfl | rfl
  · exact ha.2.2.2.2.2.2.2.1
  · exact ha.2.2.2.2.2.2.2.2.1
  · exact ha.2.2.2.2.2.2.2.2.2.1
  · exact ha.2.2.2.2.2.2.2.2.2.2.1
theorem WlkS.m11 {S : xH} {a : Nat} (ha : WlkS S a) : ∀ i, i < 4 → S.2.2 (a + 11 + 1 + i) = aSh .int 60 := by
  intro i hi
  rcases (show i = 0 ∨ i = 1 ∨ i = 2 ∨ i = 3 by omega) with rfl | rfl | rfl | rfl
  · exact ha.2.2.2.2.2.2.2.2.2.2.2.2.1
  · exact ha.2.2.2.2.2.2.2.2.2.2.2.2.2.1
  · exact ha.2.2.2.2.2.2.2.2.2.2.2.2.2.2.1
  · exact ha.2.2.2.2.2.2.2.2.2.2.2.2.2.2.2.1
theorem q_WlkBecome {S : xH} {m : Nat → Int → Int} {q : Nat → Int → Int64} {a b : Nat} (ha : WlkS S a) (hb : WlkS S b) (hd : a + 17 ≤ b ∨ b + 17 ≤ a) : De (fun n => f_X8_become n 0 [.ref a, .ref b] (hp S m q)) (.inl none) (hp S (bWlk m a b) q) := by
  unfold bWlk
  refine De.stepk 3 ?_
  simp only [j_X8_become_0, b_X8_become_0]
  simp (disch := omega) only [Wlk0_r0 ha, Wlk0_r0 hb, Wlk0_r1 ha, Wlk0_r1 hb, Wlk0_r2 ha, Wlk0_r2 hb, Wlk0_r3 ha, Wlk0_r3 hb, e_copyRow (hb.2.2.2.2.2.2.2.2.2.2.2.2.2.2.2.2) (ha.2.2.2.2.2.2.2.2.2.2.2.2.2.2.2.2) (show 4 < 2147483648 by decide), xU, Option.bind_some, cpr_ne, cps_ne, up_a]
  refine De.call ((q_copyRows (S := S) (hb.2.1) (ha.2.1) hb.m1 ha.m1 (by decide) (by decide) (by omega)).sh 2) ?_
  simp (disch := omega) only [Wlk0_r0 ha, Wlk0_r0 hb, Wlk0_r1 ha, Wlk0_r1 hb, Wlk0_r2 ha, Wlk0_r2 hb, Wlk0_r3 ha, Wlk0_r3 hb, e_copyRow (hb.2.2.2.2.2.2.2.2.2.2.2.2.2.2.2.2) (ha.2.2.2.2.2.2.2.2.2.2.2.2.2.2.2.2) (show 4 < 2147483648 by decide), xU, Option.bind_some, cpr_ne, cps_ne, up_a]
  refine De.call ((q_copyRows (S := S) (hb.2.2.2.2.2.2.1) (ha.2.2.2.2.2.2.1) hb.m6 ha.m6 (by decide) (by decide) (by omega)).sh 2) ?_
  simp (disch := omega) only [Wlk0_r0 ha, Wlk0_r0 hb, Wlk0_r1 ha, Wlk0_r1 hb, Wlk0_r2 ha, Wlk0_r2 hb, Wlk0_r3 ha, Wlk0_r3 hb, e_copyRow (hb.2.2.2.2.2.2.2.2.2.2.2.2.2.2.2.2) (ha.2.2.2.2.2.2.2.2.2.2.2.2.2.2.2.2) (show 4 < 2147483648 by decide), xU, Option.bind_some, cpr_ne, cps_ne, up_a]
  refine De.call ((q_copyRows (S := S) (hb.2.2.2.2.2.2.2.2.2.2.2.1) (ha.2.2.2.2.2.2.2.2.2.2.2.1) hb.m11 ha.m11 (by decide) (by decide) (by omega)).sh 2) ?_
  simp (disch := omega) only [Wlk0_r0 ha, Wlk0_r0 hb, Wlk0_r1 ha, Wlk0_r1 hb, Wlk0_r2 ha, Wlk0_r2 hb, Wlk0_r3 ha, Wlk0_r3 hb, e_copyRow (hb.2.2.2.2.2.2.2.2.2.2.2.2.2.2.2.2) (ha.2.2.2.2.2.2.2.2.2.2.2.2.2.2.2.2) (show 4 < 2147483648 by decide), xU, Option.bind_some, cpr_ne, cps_ne, up_a]
  exact De.ret _ _
theorem bWlk_out {m : Nat → Int → Int} {a b c : Nat} {i : Int} (h : c < a ∨ a + 17 ≤ c) : bWlk m a b c i = m c i := by
  unfold bWlk cpr cps
  skip
  repeat rw [if_neg (by omega)]
def bHel (m : Nat → Int → Int) (a b : Nat) : Nat → Int → Int := up (up (cpr (cpr (cps (m) (b + 1) (a + 1) 6 5) (b + 8) (a + 8) 4) (b + 9) (a + 9) 4) a 5 (m b 5)) a 6 (m b 6)
theorem HelS.m1 {S : xH} {a : Nat} (ha : HelS S a) : ∀ i, i < 6 → S.2.2 (a + 1 + 1 + i) = aSh .int 5 := by
  intro i hi
  rcases (show i = 0 ∨ i = 1 ∨ i = 2 ∨ i = 3 ∨ i = 4 ∨ i = 5 by omega) with rfl | rfl | rfl | rfl | rfl | rfl
  · exact ha.2.2.1
  · exact ha.2.2.2.1
  · exact ha.2.2.2.2.1
  · exact ha.2.2.2.2.2.1
  · exact ha.2.2.2.2.2.2.1
  · exact ha.2.2.2.2.2.2.2.1
theorem q_HelBecome {S : xH} {m : Nat → Int → Int} {q : Nat → Int → Int64} {a b : Nat} (ha : HelS S a) (hb : HelS S b) (hd : a + 12 ≤ b ∨ b + 12 ≤ a) : De (fun n => f_X0_become n 0 [.ref a, .ref b] (hp S m q)) (.inl none) (hp S (bHel m a b) q) := by
  unfold bHel
  refine De.stepk 3 ?_
  simp only [j_X0_become_0, b_X0_become_0]
  simp (disch := omega) only [Hel0_r0 ha, Hel0_r0 hb, Hel0_r1 ha, Hel0_r1 hb, Hel0_r2 ha, Hel0_r2 hb, Hel0_i5 hb, Hel0_w5 ha, Hel0_i6 hb, Hel0_w6 ha, e_copyRow (hb.2.2.2.2.2.2.2.2.1) (ha.2.2.2.2.2.2.2.2.1) (show 4 < 2147483648 by decide), e_copyRow (hb.2.2.2.2.2.2.2.2.2.1) (ha.2.2.2.2.2.2.2.2.2.1) (show 4 < 2147483648 by decide), xU, Option.bind_some, cpr_ne, cps_ne, up_a]
  refine De.call ((q_copyRows (S := S) (hb.2.1) (ha.2.1) hb.m1 ha.m1 (by decide) (by decide) (by omega)).sh 2) ?_
  simp (disch := omega) only [Hel0_r0 ha, Hel0_r0 hb, Hel0_r1 ha, Hel0_r1 hb, Hel0_r2 ha, Hel0_r2 hb, Hel0_i5 hb, Hel0_w5 ha, Hel0_i6 hb, Hel0_w6 ha, e_copyRow (hb.2.2.2.2.2.2.2.2.1) (ha.2.2.2.2.2.2.2.2.1) (show 4 < 2147483648 by decide), e_copyRow (hb.2.2.2.2.2.2.2.2.2.1) (ha.2.2.2.2.2.2.2.2.2.1) (show 4 < 2147483648 by decide), xU, Option.bind_some, cpr_ne, cps_ne, up_a]
  exact De.ret _ _
theorem bHel_out {m : Nat → Int → Int} {a b c : Nat} {i : Int} (h : c < a ∨ a + 12 ≤ c) : bHel m a b c i = m c i := by
  unfold bHel cpr cps
  simp only [up_get]
  repeat rw [if_neg (by omega)]
