/-! the rows of a town that has become another -/
theorem bRul_row {m : Nat → Int → Int} {a b : Nat} {i : Int} {o : Nat} (hd : a + 6 ≤ b ∨ b + 6 ≤ a) (i0 : 0 ≤ i) (h : (1 ≤ o ∧ o ≤ 2 ∧ i < 10) ∨ (o = 3 ∧ i < 11) ∨ (o = 4 ∧ i < 200)) : bRul m a b (a + o) i = m (b + o) i := by
  unfold bRul
  rw [up_a (by omega), up_a (by omega)]
  have c : (o = 1 ∧ i < 10) ∨ (o = 2 ∧ i < 10) ∨ (o = 3 ∧ i < 11) ∨ (o = 4 ∧ i < 200) := by omega
  rcases c with ⟨rfl, c⟩ | ⟨rfl, c⟩ | ⟨rfl, c⟩ | ⟨rfl, c⟩
  · rw [cpr_ne (by omega), cpr_ne (by omega), cpr_ne (by omega), cpr_at i0 c]
  · rw [cpr_ne (by omega), cpr_ne (by omega), cpr_at i0 c, cpr_ne (by omega)]
  · rw [cpr_ne (by omega), cpr_at i0 c, cpr_ne (by omega), cpr_ne (by omega)]
  · rw [cpr_at i0 c, cpr_ne (by omega), cpr_ne (by omega), cpr_ne (by omega)]
theorem bRul_obj {m : Nat → Int → Int} {a b : Nat} : bRul m a b a 3 = m b 3 ∧ bRul m a b a 5 = m b 5 := by
  unfold bRul
  exact ⟨by rw [up_i (by decide), up_at], by rw [up_at]⟩
theorem bRow_row {m : Nat → Int → Int} {a b : Nat} {i : Int} {o : Nat} (hd : a + 3 ≤ b ∨ b + 3 ≤ a) (i0 : 0 ≤ i) (h : 1 ≤ o ∧ o ≤ 2 ∧ i < 8) : bRow m a b (a + o) i = m (b + o) i := by
  unfold bRow
  rw [up_a (by omega)]
  have c : (o = 1 ∧ i < 8) ∨ (o = 2 ∧ i < 8) := by omega
  rcases c with ⟨rfl, c⟩ | ⟨rfl, c⟩
  · rw [cpr_ne (by omega), cpr_at i0 c]
  · rw [cpr_at i0 c, cpr_ne (by omega)]
theorem bRow_obj {m : Nat → Int → Int} {a b : Nat} : bRow m a b a 2 = m b 2 := by
  unfold bRow
  rw [up_at]
theorem bPar_row {m : Nat → Int → Int} {a b : Nat} {i : Int} {o : Nat} (hd : a + 6 ≤ b ∨ b + 6 ≤ a) (i0 : 0 ≤ i) (h : 1 ≤ o ∧ o ≤ 3 ∧ i < 7) : bPar m a b (a + o) i = m (b + o) i := by
  unfold bPar
  rw [up_a (by omega), up_a (by omega)]
  have c : (o = 1 ∧ i < 7) ∨ (o = 2 ∧ i < 7) ∨ (o = 3 ∧ i < 7) := by omega
  rcases c with ⟨rfl, c⟩ | ⟨rfl, c⟩ | ⟨rfl, c⟩
  · rw [cpr_ne (by omega), cpr_ne (by omega), cpr_at i0 c]
  · rw [cpr_ne (by omega), cpr_at i0 c, cpr_ne (by omega)]
  · rw [cpr_at i0 c, cpr_ne (by omega), cpr_ne (by omega)]
theorem bPar_obj {m : Nat → Int → Int} {a b : Nat} : bPar m a b a 5 = m b 5 ∧ bPar m a b a 6 = m b 6 := by
  unfold bPar
  exact ⟨by rw [up_i (by decide), up_at], by rw [up_at]⟩
theorem bWrd_row {m : Nat → Int → Int} {a b : Nat} {i : Int} {o : Nat} (hd : a + 13 ≤ b ∨ b + 13 ≤ a) (i0 : 0 ≤ i) (h : 2 ≤ o ∧ o ≤ 12 ∧ i < 30) : bWrd m a b (a + o) i = m (b + o) i := by
  unfold bWrd
  rw [up_a (by omega)]
  have c : (o ≤ 10) ∨ o = 11 ∨ o = 12 := by omega
  rcases c with c | rfl | rfl
  · rw [cpr_ne (by omega), cpr_ne (by omega), show a + o = a + 1 + (o - 1) by omega, cps_at (by omega) (by omega) i0 h.2.2, show b + 1 + (o - 1) = b + o by omega]
  · rw [cpr_ne (by omega), cpr_at i0 h.2.2, cps_ne (by omega)]
  · rw [cpr_at i0 h.2.2, cpr_ne (by omega), cps_ne (by omega)]
theorem bWrd_obj {m : Nat → Int → Int} {a b : Nat} : bWrd m a b a 3 = m b 3 := by
  unfold bWrd
  rw [up_at]
theorem bWlk_row {m : Nat → Int → Int} {a b : Nat} {i : Int} {o : Nat} (hd : a + 17 ≤ b ∨ b + 17 ≤ a) (i0 : 0 ≤ i) (h : (2 ≤ o ∧ o ≤ 5 ∧ i < 60) ∨ (7 ≤ o ∧ o ≤ 10 ∧ i < 60) ∨ (12 ≤ o ∧ o ≤ 15 ∧ i < 60) ∨ (o = 16 ∧ i < 4)) : bWlk m a b (a + o) i = m (b + o) i := by
  unfold bWlk
  rcases h with c | c | c | ⟨rfl, c⟩
  · rw [cpr_ne (by omega), cps_ne (by omega), cps_ne (by omega), show a + o = a + 1 + (o - 1) by omega, cps_at (by omega) (by omega) i0 c.2.2, show b + 1 + (o - 1) = b + o by omega]
  · rw [cpr_ne (by omega), cps_ne (by omega), show a + o = a + 6 + (o - 6) by omega, cps_at (by omega) (by omega) i0 c.2.2, cps_ne (by omega), show b + 6 + (o - 6) = b + o by omega]
  · rw [cpr_ne (by omega), show a + o = a + 11 + (o - 11) by omega, cps_at (by omega) (by omega) i0 c.2.2, cps_ne (by omega), cps_ne (by omega), show b + 11 + (o - 11) = b + o by omega]
  · rw [cpr_at i0 c, cps_ne (by omega), cps_ne (by omega), cps_ne (by omega)]
theorem bHel_row {m : Nat → Int → Int} {a b : Nat} {i : Int} {o : Nat} (hd : a + 12 ≤ b ∨ b + 12 ≤ a) (i0 : 0 ≤ i) (h : (2 ≤ o ∧ o ≤ 7 ∧ i < 5) ∨ (8 ≤ o ∧ o ≤ 9 ∧ i < 4)) : bHel m a b (a + o) i = m (b + o) i := by
  unfold bHel
  rw [up_a (by omega), up_a (by omega)]
  have c : (2 ≤ o ∧ o ≤ 7 ∧ i < 5) ∨ (o = 8 ∧ i < 4) ∨ (o = 9 ∧ i < 4) := by omega
  rcases c with c | ⟨rfl, c⟩ | ⟨rfl, c⟩
  · rw [cpr_ne (by omega), cpr_ne (by omega), show a + o = a + 1 + (o - 1) by omega, cps_at (by omega) (by omega) i0 c.2.2, show b + 1 + (o - 1) = b + o by omega]
  · rw [cpr_ne (by omega), cpr_at i0 c, cps_ne (by omega)]
  · rw [cpr_at i0 c, cpr_ne (by omega), cps_ne (by omega)]
theorem bHel_obj {m : Nat → Int → Int} {a b : Nat} : bHel m a b a 5 = m b 5 ∧ bHel m a b a 6 = m b 6 := by
  unfold bHel
  exact ⟨by rw [up_i (by decide), up_at], by rw [up_at]⟩
theorem tw_bRul {m : Nat → Int → Int} {a b : Nat} {i : Int} {o : Nat} (hd : a + 102 ≤ b ∨ b + 102 ≤ a) (i0 : 0 ≤ i) (h : (1 ≤ o ∧ o ≤ 2 ∧ i < 10) ∨ (o = 3 ∧ i < 11) ∨ (o = 4 ∧ i < 200)) : twM m a b (a + 1 + o) i = m (b + 1 + o) i := by
  unfold twM
  rw [up_a (by omega), up_a (by omega), bHel_out (by omega), bPar_out (by omega), bRow_out (by omega), nbM_out (by omega), nbM_out (by omega), bWlk_out (by omega), bWrd_out (by omega), bRul_row (by omega) i0 h]
theorem tw_bWrd {m : Nat → Int → Int} {a b : Nat} {i : Int} {o : Nat} (hd : a + 102 ≤ b ∨ b + 102 ≤ a) (i0 : 0 ≤ i) (h : 2 ≤ o ∧ o ≤ 12 ∧ i < 30) : twM m a b (a + 7 + o) i = m (b + 7 + o) i := by
  unfold twM
  rw [up_a (by omega), up_a (by omega), bHel_out (by omega), bPar_out (by omega), bRow_out (by omega), nbM_out (by omega), nbM_out (by omega), bWlk_out (by omega), bWrd_row (by omega) i0 h, bRul_out (by omega)]
theorem tw_bWlk {m : Nat → Int → Int} {a b : Nat} {i : Int} {o : Nat} (hd : a + 102 ≤ b ∨ b + 102 ≤ a) (i0 : 0 ≤ i) (h : (2 ≤ o ∧ o ≤ 5 ∧ i < 60) ∨ (7 ≤ o ∧ o ≤ 10 ∧ i < 60) ∨ (12 ≤ o ∧ o ≤ 15 ∧ i < 60) ∨ (o = 16 ∧ i < 4)) : twM m a b (a + 20 + o) i = m (b + 20 + o) i := by
  unfold twM
  rw [up_a (by omega), up_a (by omega), bHel_out (by omega), bPar_out (by omega), bRow_out (by omega), nbM_out (by omega), nbM_out (by omega), bWlk_row (by omega) i0 h, bWrd_out (by omega), bRul_out (by omega)]
theorem tw_nbM1 {m : Nat → Int → Int} {a b : Nat} {i : Int} {o : Nat} (hd : a + 102 ≤ b ∨ b + 102 ≤ a) (i0 : 0 ≤ i) (h : (2 ≤ o ∧ o ≤ 9 ∧ i < 10) ∨ (11 ≤ o ∧ o ≤ 14 ∧ i < 300) ∨ (o = 16 ∧ i < 10) ∨ (17 ≤ o ∧ o ≤ 19 ∧ i < 30)) : twM m a b (a + 37 + o) i = m (b + 37 + o) i := by
  unfold twM
  rw [up_a (by omega), up_a (by omega), bHel_out (by omega), bPar_out (by omega), bRow_out (by omega), nbM_out (by omega), nbM_row (by omega) i0 h, bWlk_out (by omega), bWrd_out (by omega), bRul_out (by omega)]
theorem tw_nbM2 {m : Nat → Int → Int} {a b : Nat} {i : Int} {o : Nat} (hd : a + 102 ≤ b ∨ b + 102 ≤ a) (i0 : 0 ≤ i) (h : (2 ≤ o ∧ o ≤ 9 ∧ i < 10) ∨ (11 ≤ o ∧ o ≤ 14 ∧ i < 300) ∨ (o = 16 ∧ i < 10) ∨ (17 ≤ o ∧ o ≤ 19 ∧ i < 30)) : twM m a b (a + 59 + o) i = m (b + 59 + o) i := by
  unfold twM
  rw [up_a (by omega), up_a (by omega), bHel_out (by omega), bPar_out (by omega), bRow_out (by omega), nbM_row (by omega) i0 h, nbM_out (by omega), bWlk_out (by omega), bWrd_out (by omega), bRul_out (by omega)]
theorem tw_bRow {m : Nat → Int → Int} {a b : Nat} {i : Int} {o : Nat} (hd : a + 102 ≤ b ∨ b + 102 ≤ a) (i0 : 0 ≤ i) (h : 1 ≤ o ∧ o ≤ 2 ∧ i < 8) : twM m a b (a + 81 + o) i = m (b + 81 + o) i := by
  unfold twM
  rw [up_a (by omega), up_a (by omega), bHel_out (by omega), bPar_out (by omega), bRow_row (by omega) i0 h, nbM_out (by omega), nbM_out (by omega), bWlk_out (by omega), bWrd_out (by omega), bRul_out (by omega)]
theorem tw_bPar {m : Nat → Int → Int} {a b : Nat} {i : Int} {o : Nat} (hd : a + 102 ≤ b ∨ b + 102 ≤ a) (i0 : 0 ≤ i) (h : 1 ≤ o ∧ o ≤ 3 ∧ i < 7) : twM m a b (a + 84 + o) i = m (b + 84 + o) i := by
  unfold twM
  rw [up_a (by omega), up_a (by omega), bHel_out (by omega), bPar_row (by omega) i0 h, bRow_out (by omega), nbM_out (by omega), nbM_out (by omega), bWlk_out (by omega), bWrd_out (by omega), bRul_out (by omega)]
theorem tw_bHel {m : Nat → Int → Int} {a b : Nat} {i : Int} {o : Nat} (hd : a + 102 ≤ b ∨ b + 102 ≤ a) (i0 : 0 ≤ i) (h : (2 ≤ o ∧ o ≤ 7 ∧ i < 5) ∨ (8 ≤ o ∧ o ≤ 9 ∧ i < 4)) : twM m a b (a + 90 + o) i = m (b + 90 + o) i := by
  unfold twM
  rw [up_a (by omega), up_a (by omega), bHel_row (by omega) i0 h, bPar_out (by omega), bRow_out (by omega), nbM_out (by omega), nbM_out (by omega), bWlk_out (by omega), bWrd_out (by omega), bRul_out (by omega)]
theorem tw_bRul_3 {m : Nat → Int → Int} {a b : Nat} (hd : a + 102 ≤ b ∨ b + 102 ≤ a) : twM m a b (a + 1) 3 = m (b + 1) 3 := by
  unfold twM
  rw [up_a (by omega), up_a (by omega), bHel_out (by omega), bPar_out (by omega), bRow_out (by omega), nbM_out (by omega), nbM_out (by omega), bWlk_out (by omega), bWrd_out (by omega), bRul_obj.1]
theorem tw_bRul_5 {m : Nat → Int → Int} {a b : Nat} (hd : a + 102 ≤ b ∨ b + 102 ≤ a) : twM m a b (a + 1) 5 = m (b + 1) 5 := by
  unfold twM
  rw [up_a (by omega), up_a (by omega), bHel_out (by omega), bPar_out (by omega), bRow_out (by omega), nbM_out (by omega), nbM_out (by omega), bWlk_out (by omega), bWrd_out (by omega), bRul_obj.2]
theorem tw_bWrd_3 {m : Nat → Int → Int} {a b : Nat} (hd : a + 102 ≤ b ∨ b + 102 ≤ a) : twM m a b (a + 7) 3 = m (b + 7) 3 := by
  unfold twM
  rw [up_a (by omega), up_a (by omega), bHel_out (by omega), bPar_out (by omega), bRow_out (by omega), nbM_out (by omega), nbM_out (by omega), bWlk_out (by omega), bWrd_obj, bRul_out (by omega)]
theorem tw_bRow_2 {m : Nat → Int → Int} {a b : Nat} (hd : a + 102 ≤ b ∨ b + 102 ≤ a) : twM m a b (a + 81) 2 = m (b + 81) 2 := by
  unfold twM
  rw [up_a (by omega), up_a (by omega), bHel_out (by omega), bPar_out (by omega), bRow_obj, nbM_out (by omega), nbM_out (by omega), bWlk_out (by omega), bWrd_out (by omega), bRul_out (by omega)]
theorem tw_bPar_5 {m : Nat → Int → Int} {a b : Nat} (hd : a + 102 ≤ b ∨ b + 102 ≤ a) : twM m a b (a + 84) 5 = m (b + 84) 5 := by
  unfold twM
  rw [up_a (by omega), up_a (by omega), bHel_out (by omega), bPar_obj.1, bRow_out (by omega), nbM_out (by omega), nbM_out (by omega), bWlk_out (by omega), bWrd_out (by omega), bRul_out (by omega)]
theorem tw_bPar_6 {m : Nat → Int → Int} {a b : Nat} (hd : a + 102 ≤ b ∨ b + 102 ≤ a) : twM m a b (a + 84) 6 = m (b + 84) 6 := by
  unfold twM
  rw [up_a (by omega), up_a (by omega), bHel_out (by omega), bPar_obj.2, bRow_out (by omega), nbM_out (by omega), nbM_out (by omega), bWlk_out (by omega), bWrd_out (by omega), bRul_out (by omega)]
theorem tw_bHel_5 {m : Nat → Int → Int} {a b : Nat} (hd : a + 102 ≤ b ∨ b + 102 ≤ a) : twM m a b (a + 90) 5 = m (b + 90) 5 := by
  unfold twM
  rw [up_a (by omega), up_a (by omega), bHel_obj.1, bPar_out (by omega), bRow_out (by omega), nbM_out (by omega), nbM_out (by omega), bWlk_out (by omega), bWrd_out (by omega), bRul_out (by omega)]
theorem tw_bHel_6 {m : Nat → Int → Int} {a b : Nat} (hd : a + 102 ≤ b ∨ b + 102 ≤ a) : twM m a b (a + 90) 6 = m (b + 90) 6 := by
  unfold twM
  rw [up_a (by omega), up_a (by omega), bHel_obj.2, bPar_out (by omega), bRow_out (by omega), nbM_out (by omega), nbM_out (by omega), bWlk_out (by omega), bWrd_out (by omega), bRul_out (by omega)]
theorem tw_nbM1_o {m : Nat → Int → Int} {a b : Nat} {i : Int} (hd : a + 102 ≤ b ∨ b + 102 ≤ a) (i0 : 2 ≤ i) (i1 : i ≤ 4) : twM m a b (a + 37) i = m (b + 37) i := by
  unfold twM
  rw [up_a (by omega), up_a (by omega), bHel_out (by omega), bPar_out (by omega), bRow_out (by omega), nbM_out (by omega), nbM_obj i0 i1, bWlk_out (by omega), bWrd_out (by omega), bRul_out (by omega)]
theorem tw_nbM2_o {m : Nat → Int → Int} {a b : Nat} {i : Int} (hd : a + 102 ≤ b ∨ b + 102 ≤ a) (i0 : 2 ≤ i) (i1 : i ≤ 4) : twM m a b (a + 59) i = m (b + 59) i := by
  unfold twM
  rw [up_a (by omega), up_a (by omega), bHel_out (by omega), bPar_out (by omega), bRow_out (by omega), nbM_obj i0 i1, nbM_out (by omega), bWlk_out (by omega), bWrd_out (by omega), bRul_out (by omega)]
theorem tw_8 {m : Nat → Int → Int} {a b : Nat} : twM m a b a 8 = m b 8 := by
  unfold twM
  rw [up_i (by decide), up_at]
theorem tw_9 {m : Nat → Int → Int} {a b : Nat} : twM m a b a 9 = m b 9 := by
  unfold twM
  rw [up_at]
theorem tw_out {m : Nat → Int → Int} {a b : Nat} {i : Int} {c : Nat} (h : c < a ∨ a + 102 ≤ c) : twM m a b c i = m c i := by
  unfold twM
  rw [up_a (by omega), up_a (by omega), bHel_out (by omega), bPar_out (by omega), bRow_out (by omega), nbM_out (by omega), nbM_out (by omega), bWlk_out (by omega), bWrd_out (by omega), bRul_out (by omega)]
theorem twq_out {q : Nat → Int → Int64} {a b c : Nat} (h : c < a ∨ a + 102 ≤ c) : twQ q a b c = q c := by
  unfold twQ
  rw [nbQ_out (by omega), nbQ_out (by omega)]
theorem twq_1 {q : Nat → Int → Int64} {a b o : Nat} {i : Int} (hd : a + 102 ≤ b ∨ b + 102 ≤ a) (i0 : 0 ≤ i) (h : (o = 15 ∧ i < 300) ∨ (o = 20 ∧ i < 30)) : twQ q a b (a + 37 + o) i = q (b + 37 + o) i := by
  unfold twQ
  rw [nbQ_out (by omega), nbQ_row (by omega) i0 h]
theorem twq_2 {q : Nat → Int → Int64} {a b o : Nat} {i : Int} (hd : a + 102 ≤ b ∨ b + 102 ≤ a) (i0 : 0 ≤ i) (h : (o = 15 ∧ i < 300) ∨ (o = 20 ∧ i < 30)) : twQ q a b (a + 59 + o) i = q (b + 59 + o) i := by
  unfold twQ
  rw [nbQ_row (by omega) i0 h, nbQ_out (by omega)]
/-- the town a is the town b now -/
theorem Rtown.tw {a b : Nat} {m m' : Nat → Int → Int} {q q' : Nat → Int → Int64} {w v w' v' : Int → Int} (h : Rtown b m q w v) (hd : a + 102 ≤ b ∨ b + 102 ≤ a) (em : ∀ c i, a ≤ c → c < a + 102 → m' c i = twM m a b c i) (eq : ∀ c, a ≤ c → c < a + 102 → q' c = twQ q a b c) (ew : ∀ i, 0 ≤ i → i < 5080 → w' i = w i) (ev : ∀ i, 0 ≤ i → i < 2301 → v' i = v i) : Rtown a m' q' w' v' := by
  have e := fun c i h1 h2 => em c i h1 h2
  have s : ∀ (off o : Nat) (i : Int), off + o < 102 → m' (a + (off + o)) i = twM m a b (a + off + o) i := fun off o i ho => by rw [em _ _ (by omega) (by omega), Nat.add_assoc]
  refine Rtown.cg h ⟨(em _ _ (by omega) (by omega)).trans tw_8, (em _ _ (by omega) (by omega)).trans tw_9⟩ ⟨(em _ _ (by omega) (by omega)).trans (tw_bRul_3 hd), (em _ _ (by omega) (by omega)).trans (tw_bRul_5 hd)⟩ ((em _ _ (by omega) (by omega)).trans (tw_bWrd_3 hd)) (fun i i0 i1 => (em _ _ (by omega) (by omega)).trans (tw_nbM1_o hd i0 i1)) (fun i i0 i1 => (em _ _ (by omega) (by omega)).trans (tw_nbM2_o hd i0 i1)) ((em _ _ (by omega) (by omega)).trans (tw_bRow_2 hd)) ⟨(em _ _ (by omega) (by omega)).trans (tw_bPar_5 hd), (em _ _ (by omega) (by omega)).trans (tw_bPar_6 hd)⟩ ⟨(em _ _ (by omega) (by omega)).trans (tw_bHel_5 hd), (em _ _ (by omega) (by omega)).trans (tw_bHel_6 hd)⟩ ?_ ?_ ?_ ?_ ?_ ?_ ?_ ?_ ?_ ?_ ?_ ?_ ?_ ?_ ?_ ?_ ew ev
  · intro o i h1 h2 i0 i1
    rw [em _ _ (by omega) (by omega), show a + o = a + 1 + (o - 1) by omega, tw_bRul hd i0 (by omega), show b + 1 + (o - 1) = b + o by omega]
  · intro o i h1 h2 i0 i1
    rw [em _ _ (by omega) (by omega), show a + o = a + 1 + (o - 1) by omega, tw_bRul hd i0 (by omega), show b + 1 + (o - 1) = b + o by omega]
  · intro o i h1 h2 i0 i1
    rw [em _ _ (by omega) (by omega), show a + o = a + 1 + (o - 1) by omega, tw_bRul hd i0 (by omega), show b + 1 + (o - 1) = b + o by omega]
  · intro o i h1 h2 i0 i1
    rw [em _ _ (by omega) (by omega), show a + o = a + 7 + (o - 7) by omega, tw_bWrd hd i0 (by omega), show b + 7 + (o - 7) = b + o by omega]
  · intro o i h1 h2 i0 i1
    rw [em _ _ (by omega) (by omega), show a + o = a + 20 + (o - 20) by omega, tw_bWlk hd i0 (by omega), show b + 20 + (o - 20) = b + o by omega]
  · intro o i h1 h2 i0 i1
    rw [em _ _ (by omega) (by omega), show a + o = a + 20 + (o - 20) by omega, tw_bWlk hd i0 (by omega), show b + 20 + (o - 20) = b + o by omega]
  · intro o i h1 h2 i0 i1
    rw [em _ _ (by omega) (by omega), show a + o = a + 20 + (o - 20) by omega, tw_bWlk hd i0 (by omega), show b + 20 + (o - 20) = b + o by omega]
  · intro o i h1 h2 i0 i1
    rw [em _ _ (by omega) (by omega), show a + o = a + 20 + (o - 20) by omega, tw_bWlk hd i0 (by omega), show b + 20 + (o - 20) = b + o by omega]
  · intro o i i0 h
    rw [em _ _ (by omega) (by omega), tw_nbM1 hd i0 h]
  · intro o i i0 h
    rw [em _ _ (by omega) (by omega), tw_nbM2 hd i0 h]
  · intro o i h1 h2 i0 i1
    rw [em _ _ (by omega) (by omega), show a + o = a + 81 + (o - 81) by omega, tw_bRow hd i0 (by omega), show b + 81 + (o - 81) = b + o by omega]
  · intro o i h1 h2 i0 i1
    rw [em _ _ (by omega) (by omega), show a + o = a + 84 + (o - 84) by omega, tw_bPar hd i0 (by omega), show b + 84 + (o - 84) = b + o by omega]
  · intro o i h1 h2 i0 i1
    rw [em _ _ (by omega) (by omega), show a + o = a + 90 + (o - 90) by omega, tw_bHel hd i0 (by omega), show b + 90 + (o - 90) = b + o by omega]
  · intro o i h1 h2 i0 i1
    rw [em _ _ (by omega) (by omega), show a + o = a + 90 + (o - 90) by omega, tw_bHel hd i0 (by omega), show b + 90 + (o - 90) = b + o by omega]
  · intro o i i0 h
    rw [eq _ (by omega) (by omega), twq_1 hd i0 h]
  · intro o i i0 h
    rw [eq _ (by omega) (by omega), twq_2 hd i0 h]
