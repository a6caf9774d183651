/-! the tests that most calls begin with -/
theorem x_needIndex {P : xH} (r : RmOk P) (x b : Int32) (n : Nat) : f_X10_needIndex (n + 2) 0 [.int x, .int b] P = if 0 ≤ x ∧ x < b then some (.inl none, P) else some (.inr P.1, xth P 0) := by
  have e : f_X10_needIndex (n + 1) 9 [.int x, .int b] P = some (.inr P.1, xth P 0) := tE_ok r 0
  show b_X10_needIndex_0 (n + 1) (f_X10_needIndex (n + 1)) x b P = _
  unfold b_X10_needIndex_0
  by_cases h1 : x < 0
  · rw [if_pos h1, if_neg (fun q => Int32.not_le.mpr h1 q.1)]
    exact e
  · rw [if_neg h1]
    by_cases h2 : x < b
    · rw [if_pos h2, if_pos ⟨Int32.not_lt.mp h1, h2⟩]
    · rw [if_neg h2, if_neg (fun q => h2 q.2)]
      exact e
theorem x_needWhat {P : xH} (r : RmOk P) (x b : Int32) (n : Nat) : f_X10_needWhat (n + 2) 0 [.int x, .int b] P = if 0 ≤ x ∧ x < b then some (.inl none, P) else some (.inr P.1, xth P 4) := by
  have e : f_X10_needWhat (n + 1) 9 [.int x, .int b] P = some (.inr P.1, xth P 4) := tE_ok r 4
  show b_X10_needWhat_0 (n + 1) (f_X10_needWhat (n + 1)) x b P = _
  unfold b_X10_needWhat_0
  by_cases h1 : x < 0
  · rw [if_pos h1, if_neg (fun q => Int32.not_le.mpr h1 q.1)]
    exact e
  · rw [if_neg h1]
    by_cases h2 : x < b
    · rw [if_pos h2, if_pos ⟨Int32.not_lt.mp h1, h2⟩]
    · rw [if_neg h2, if_neg (fun q => h2 q.2)]
      exact e
theorem x_needSpace {P : xH} (r : RmOk P) (x b : Int32) (n : Nat) : f_X10_needSpace (n + 1) 0 [.int x, .int b] P = if x < b then some (.inl none, P) else some (.inr P.1, xth P 2) := by
  show b_X10_needSpace_0 n (f_X10_needSpace n) x b P = _
  unfold b_X10_needSpace_0
  rw [tE_ok r 2]
theorem x_needPlace {P : xH} (r : RmOk P) (x : Int32) (n : Nat) : f_X10_needPlace (n + 3) 0 [.int x] P = if 0 ≤ x ∧ x < 16 then some (.inl none, P) else some (.inr P.1, xth P 0) := by
  show b_X10_needPlace_0 (n + 2) (f_X10_needPlace (n + 2)) x P = _
  unfold b_X10_needPlace_0
  rw [x_needIndex r]
  by_cases c : 0 ≤ x ∧ x < 16
  · rw [if_pos c]
    rfl
  · rw [if_neg c]
    rfl
theorem x_needPhone {P : xH} (h : KS P) (r : RmOk P) (x : Int32) (n : Nat) : f_X10_needPhone (n + 3) 0 [.ref 0, .int x] P = if 0 ≤ x ∧ x < gX P 46 3 then some (.inl none, P) else some (.inr P.1, xth P 0) := by
  show b_X10_needPhone_0 (n + 2) (f_X10_needPhone (n + 2)) 0 x P = _
  unfold b_X10_needPhone_0
  rw [h.town, Option.bind_some, rA_sp (h.at 9) rfl, Option.bind_some, rI_sp (h.at 46) rfl, Option.bind_some, x_needIndex r]
  by_cases c : 0 ≤ x ∧ x < gX P 46 3
  · rw [if_pos c]
    rfl
  · rw [if_neg c]
    rfl
theorem x_needWord {P : xH} (h : KS P) (r : RmOk P) (x : Int32) (n : Nat) : f_X10_needWord (n + 3) 0 [.ref 0, .int x] P = if 0 ≤ x ∧ x < gX P 16 3 then some (.inl none, P) else some (.inr P.1, xth P 0) := by
  show b_X10_needWord_0 (n + 2) (f_X10_needWord (n + 2)) 0 x P = _
  unfold b_X10_needWord_0
  rw [h.town, Option.bind_some, rA_sp (h.at 9) rfl, Option.bind_some, rI_sp (h.at 16) rfl, Option.bind_some, x_needIndex r]
  by_cases c : 0 ≤ x ∧ x < gX P 16 3
  · rw [if_pos c]
    rfl
  · rw [if_neg c]
    rfl
theorem x_needTickZero {P : xH} (h : KS P) (r : RmOk P) (n : Nat) : f_X10_needTickZero (n + 1) 0 [.ref 0] P = if gX P 46 2 ≤ 0 then some (.inl none, P) else some (.inr P.1, xth P 3) := by
  show b_X10_needTickZero_0 n (f_X10_needTickZero n) 0 P = _
  unfold b_X10_needTickZero_0
  rw [h.town, Option.bind_some, rA_sp (h.at 9) rfl, Option.bind_some, rI_sp (h.at 46) rfl, Option.bind_some, tE_ok r 3]
theorem m_noPlace (x : Int32) (P : xH) (n : Nat) : f_X11_noPlace (n + 2) 0 [.int x] P = some (.inl (some (.int (if 0 ≤ x ∧ x ≤ 15 then 0 else 1))), P) := by
  show b_X11_noPlace_0 (n + 1) (f_X11_noPlace (n + 1)) x P = _
  unfold b_X11_noPlace_0
  rw [m_in, Option.bind_some]
  simp only [xI]
  by_cases c : 0 ≤ x ∧ x ≤ 15
  · rw [if_pos c, if_pos c, if_pos (by decide)]
  · rw [if_neg c, if_neg c, if_neg (by decide)]
theorem m_noPerson (x : Int32) (P : xH) (n : Nat) : f_X11_noPerson (n + 2) 0 [.int x] P = some (.inl (some (.int (if 0 ≤ x ∧ x ≤ 15 then 0 else 1))), P) := by
  show b_X11_noPerson_0 (n + 1) (f_X11_noPerson (n + 1)) x P = _
  unfold b_X11_noPerson_0
  rw [m_in, Option.bind_some]
  simp only [xI]
  by_cases c : 0 ≤ x ∧ x ≤ 15
  · rw [if_pos c, if_pos c, if_pos (by decide)]
  · rw [if_neg c, if_neg c, if_neg (by decide)]
theorem m_phones {P : xH} (h : KS P) (n : Nat) : f_X11_phones (n + 1) 0 [.ref 136] P = some (.inl (some (.int (gI P 139 0))), P) := by
  show b_X11_phones_0 n (f_X11_phones n) 136 P = _
  unfold b_X11_phones_0
  rw [rA_sp (h.at 136) rfl, Option.bind_some, aI_sp (h.at 139) (by decide) (by decide), Option.bind_some]
  rfl
theorem m_words {P : xH} (h : KS P) (n : Nat) : f_X11_words (n + 1) 0 [.ref 136] P = some (.inl (some (.int (gI P 139 1))), P) := by
  show b_X11_words_0 n (f_X11_words n) 136 P = _
  unfold b_X11_words_0
  rw [rA_sp (h.at 136) rfl, Option.bind_some, aI_sp (h.at 139) (by decide) (by decide), Option.bind_some]
  rfl
theorem m_tick {P : xH} (h : KS P) (n : Nat) : f_X11_tick (n + 1) 0 [.ref 136] P = some (.inl (some (.int (gI P 137 0))), P) := by
  show b_X11_tick_0 n (f_X11_tick n) 136 P = _
  unfold b_X11_tick_0
  rw [rA_sp (h.at 136) rfl, Option.bind_some, aI_sp (h.at 137) (by decide) (by decide), Option.bind_some]
  rfl
theorem m_noPhone {P : xH} (h : KS P) (x : Int32) (n : Nat) : f_X11_noPhone (n + 2) 0 [.ref 136, .int x] P = some (.inl (some (.int (if 0 ≤ x ∧ x ≤ gI P 139 0 - 1 then 0 else 1))), P) := by
  show b_X11_noPhone_0 (n + 1) (f_X11_noPhone (n + 1)) 136 x P = _
  unfold b_X11_noPhone_0
  rw [kO_sp (h.at 136), Option.bind_some, m_phones h, Option.bind_some]
  simp only [xI]
  rw [m_in, Option.bind_some]
  simp only
  by_cases c : 0 ≤ x ∧ x ≤ gI P 139 0 - 1
  · rw [if_pos c, if_pos c, if_pos (by decide)]
  · rw [if_neg c, if_neg c, if_neg (by decide)]
theorem m_noWord {P : xH} (h : KS P) (x : Int32) (n : Nat) : f_X11_noWord (n + 2) 0 [.ref 136, .int x] P = some (.inl (some (.int (if 0 ≤ x ∧ x ≤ gI P 139 1 - 1 then 0 else 1))), P) := by
  show b_X11_noWord_0 (n + 1) (f_X11_noWord (n + 1)) 136 x P = _
  unfold b_X11_noWord_0
  rw [kO_sp (h.at 136), Option.bind_some, m_words h, Option.bind_some]
  simp only [xI]
  rw [m_in, Option.bind_some]
  simp only
  by_cases c : 0 ≤ x ∧ x ≤ gI P 139 1 - 1
  · rw [if_pos c, if_pos c, if_pos (by decide)]
  · rw [if_neg c, if_neg c, if_neg (by decide)]
