/-! a town becomes another -/
theorem q_RulBecome {S : xH} {m : Nat → Int → Int} {q : Nat → Int → Int64} {a b : Nat} (ha : RulS S a) (hb : RulS S b) (hd : a + 6 ≤ b ∨ b + 6 ≤ a) : De (fun n => f_X5_become n 0 [.ref a, .ref b] (hp S m q)) (.inl none) (hp S (bRul m a b) q) := De.eq 2 (fun n => e_RulBecome ha hb hd n)
theorem q_RowBecome {S : xH} {m : Nat → Int → Int} {q : Nat → Int → Int64} {a b : Nat} (ha : RowS S a) (hb : RowS S b) (hd : a + 3 ≤ b ∨ b + 3 ≤ a) : De (fun n => f_X4_become n 0 [.ref a, .ref b] (hp S m q)) (.inl none) (hp S (bRow m a b) q) := De.eq 2 (fun n => e_RowBecome ha hb hd n)
theorem q_ParBecome {S : xH} {m : Nat → Int → Int} {q : Nat → Int → Int64} {a b : Nat} (ha : ParS S a) (hb : ParS S b) (hd : a + 6 ≤ b ∨ b + 6 ≤ a) : De (fun n => f_X2_become n 0 [.ref a, .ref b] (hp S m q)) (.inl none) (hp S (bPar m a b) q) := De.eq 2 (fun n => e_ParBecome ha hb hd n)
def TownS (S : xH) (t w r : Nat) : Prop := S.2.2 t = .inr (7, [.ref (t + 1), .ref (t + 7), .ref (t + 20), .ref (t + 37), .ref (t + 59), .ref (t + 81), .ref (t + 84), .ref (t + 90), .int 0, .int 0]) ∧ RulS S (t + 1) ∧ WrdS S (t + 7) ∧ WlkS S (t + 20) ∧ NetS S (t + 37) w r ∧ NetS S (t + 59) w r ∧ RowS S (t + 81) ∧ ParS S (t + 84) ∧ HelS S (t + 90)
theorem Sk.Town {S : xH} (h : Sk S) : TownS S 9 16 10 := ⟨h.at 9, h.Rul, h.Wrd, h.Wlk, h.Net46, h.Net68, h.Row, h.Par, h.Hel⟩
def twM (m : Nat → Int → Int) (a b : Nat) : Nat → Int → Int := up (up (bHel (bPar (bRow (nbM (nbM (bWlk (bWrd (bRul m (a + 1) (b + 1)) (a + 7) (b + 7)) (a + 20) (b + 20)) (a + 37) (b + 37)) (a + 59) (b + 59)) (a + 81) (b + 81)) (a + 84) (b + 84)) (a + 90) (b + 90)) a 8 (m b 8)) a 9 (m b 9)
def twQ (q : Nat → Int → Int64) (a b : Nat) : Nat → Int → Int64 := nbQ (nbQ q (a + 37) (b + 37)) (a + 59) (b + 59)
theorem q_townBecome {S : xH} {m : Nat → Int → Int} {q : Nat → Int → Int64} {a b w r w' r' : Nat} (ha : TownS S a w r) (hb : TownS S b w' r') (hd : a + 102 ≤ b ∨ b + 102 ≤ a) : De (fun n => f_X7_become n 0 [.ref a, .ref b] (hp S m q)) (.inl none) (hp S (twM m a b) (twQ q a b)) := by
  obtain ⟨a0, a1, a2, a3, a4, a5, a6, a7, a8⟩ := ha
  obtain ⟨b0, b1, b2, b3, b4, b5, b6, b7, b8⟩ := hb
  have f : ∀ (m : Nat → Int → Int) (q : Nat → Int → Int64), rA (hp S m q) a 7 0 = some (a + 1) ∧ rA (hp S m q) a 7 1 = some (a + 7) ∧ rA (hp S m q) a 7 2 = some (a + 20) ∧ rA (hp S m q) a 7 3 = some (a + 37) ∧ rA (hp S m q) a 7 4 = some (a + 59) ∧ rA (hp S m q) a 7 5 = some (a + 81) ∧ rA (hp S m q) a 7 6 = some (a + 84) ∧ rA (hp S m q) a 7 7 = some (a + 90) := fun m q => ⟨rA_hp a0 rfl, rA_hp a0 rfl, rA_hp a0 rfl, rA_hp a0 rfl, rA_hp a0 rfl, rA_hp a0 rfl, rA_hp a0 rfl, rA_hp a0 rfl⟩
  have g : ∀ (m : Nat → Int → Int) (q : Nat → Int → Int64), rA (hp S m q) b 7 0 = some (b + 1) ∧ rA (hp S m q) b 7 1 = some (b + 7) ∧ rA (hp S m q) b 7 2 = some (b + 20) ∧ rA (hp S m q) b 7 3 = some (b + 37) ∧ rA (hp S m q) b 7 4 = some (b + 59) ∧ rA (hp S m q) b 7 5 = some (b + 81) ∧ rA (hp S m q) b 7 6 = some (b + 84) ∧ rA (hp S m q) b 7 7 = some (b + 90) := fun m q => ⟨rA_hp b0 rfl, rA_hp b0 rfl, rA_hp b0 rfl, rA_hp b0 rfl, rA_hp b0 rfl, rA_hp b0 rfl, rA_hp b0 rfl, rA_hp b0 rfl⟩
  have i8 : ∀ (m : Nat → Int → Int) (q : Nat → Int → Int64), rI (hp S m q) b 7 8 = some (J (m b 8)) := fun m q => rI_hp b0 rfl
  have i9 : ∀ (m : Nat → Int → Int) (q : Nat → Int → Int64), rI (hp S m q) b 7 9 = some (J (m b 9)) := fun m q => rI_hp b0 rfl
  have w8 : ∀ (m : Nat → Int → Int) (q : Nat → Int → Int64) (x : Int), wV (hp S m q) a 7 8 (.int (J x)) = some (hp S (up m a 8 x) q) := fun m q x => wV_hp a0 rfl
  have w9 : ∀ (m : Nat → Int → Int) (q : Nat → Int → Int64) (x : Int), wV (hp S m q) a 7 9 (.int (J x)) = some (hp S (up m a 9 x) q) := fun m q x => wV_hp a0 rfl
  unfold twM twQ
  refine De.stepk 4 ?_
  simp only [j_X7_become_0, b_X7_become_0]
  simp only [f, g, Rul0_k a1, Option.bind_some]
  refine De.call ((q_RulBecome a1 b1 (by omega)).sh 3) ?_
  simp only [xU, f, g, Wrd0_k a2, Option.bind_some]
  refine De.call ((q_WrdBecome a2 b2 (by omega)).sh 3) ?_
  simp only [xU, f, g, Wlk0_k a3, Option.bind_some]
  refine De.call ((q_WlkBecome a3 b3 (by omega)).sh 3) ?_
  simp only [xU, f, g, Net0_k a4, Option.bind_some]
  refine De.call ((q_netBecome a4 b4 (by omega)).sh 3) ?_
  simp only [xU, f, g, Net0_k a5, Option.bind_some]
  refine De.call ((q_netBecome a5 b5 (by omega)).sh 3) ?_
  simp only [xU, f, g, Row0_k a6, Option.bind_some]
  refine De.call ((q_RowBecome a6 b6 (by omega)).sh 3) ?_
  simp only [xU, f, g, Par0_k a7, Option.bind_some]
  refine De.call ((q_ParBecome a7 b7 (by omega)).sh 3) ?_
  simp only [xU, f, g, Hel0_k a8, Option.bind_some]
  refine De.call ((q_HelBecome a8 b8 (by omega)).sh 3) ?_
  simp (disch := omega) only [xU, i8, w8, i9, w9, Option.bind_some, up_a, bHel_out, bPar_out, bRow_out, nbM_out, bWlk_out, bWrd_out, bRul_out]
  exact De.ret _ _
