/-- the cells behind the law's first block -/
def cell0 (j : Nat) : xC := if j = 0 then .inr (10, F_X10 1) else if j < 136 then (L_X10 1).getD (j - 1) xno else if j = 136 then .inr (11, F_X11 137) else if j < 152 then (L_X11 137).getD (j - 137) xno else if j = 152 then jSh 1 else xno
theorem law_start : ∃ P : xH, P.1 = 153 ∧ P.2.1 = 26273 ∧ (∀ j, P.2.2 j = cell0 j) ∧ ∀ N sc z, Lv N sc 23 [.ref 0, .ref 136, .ref 152, .int 0] P z → Lv N sc 0 [] xP0 z := by
  have hv : ∀ j, xP0.2.2 j = xno := fun _ => rfl
  obtain ⟨A, a1, a2⟩ := i_X10 (P := xnew xP0 (xN 10) (.inr (10, xdef 10))) (a := 0) (xnew_at _ _ _) (Nat.zero_lt_one) (show 0 + 1 + 135 ≤ 601024 by decide) (show 0 + 5 + 7404 ≤ 7293034 by decide)
  obtain ⟨A1, A2, A3, A4, A5, A6⟩ := a2
  rw [len_X10] at A1 A6
  have A1 : A.1 = 136 := A1
  have A4 : ∀ j, j < 135 → A.2.2 ((xnew xP0 (xN 10) (.inr (10, xdef 10))).1 + j) = (L_X10 1).getD j xno := fun j hj => A4 j (by rw [len_X10]; exact hj)
  have A2 : A.2.1 = 7409 := A2.trans (show 0 + 5 + 7404 = 7409 by decide)
  have a3 := nO_ok (P := A) 11 (by omega) (show A.2.1 + 30 ≤ _ by omega)
  obtain ⟨B, b1, b2⟩ := i_X11 (P := xnew A (xN 11) (.inr (11, xdef 11))) (a := A.1) (xnew_at _ _ _) (Nat.lt_succ_self _) (show A.1 + 1 + 15 ≤ 601024 by omega) (show A.2.1 + 30 + 18833 ≤ 7293034 by omega)
  obtain ⟨B1, B2, B3, B4, B5, B6⟩ := b2
  rw [xnew_fst, A1] at B1 B4 B5 B6 B3
  have B1 : B.1 = 152 := B1.trans (show 136 + 1 + 15 = 152 by decide)
  have B2 : B.2.1 = 26272 := B2.trans (show A.2.1 + 30 + 18833 = 26272 by omega)
  have b3 : nJ' B 1 = some (xnew B 1 (jSh 1)) := by
    unfold nJ'
    rw [if_neg]
    · rfl
    · rintro (q | q | q | q)
      · exact absurd q (by decide)
      · exact absurd q (by decide)
      · omega
      · have : (1 : Int32).toNatClampNeg = 1 := rfl
        omega
  refine ⟨xnew B 1 (jSh 1), by rw [xnew_fst, B1], by show B.2.1 + 1 = _; rw [B2], fun j => ?_, fun N sc z hz => ?_⟩
  · unfold cell0
    by_cases c0 : j = 152
    · rw [c0, if_neg (by omega), if_neg (by omega), if_neg (by omega), if_neg (by omega), if_pos rfl, ← B1]
      exact xnew_at _ _ _
    · rw [xnew_ne _ _ _ (by omega)]
      by_cases c1 : j = 0
      · subst c1
        rw [if_pos rfl, B5 0 (by omega) (by omega), xnew_ne _ _ _ (by omega)]
        exact A3
      · rw [if_neg c1]
        by_cases c2 : j < 136
        · rw [if_pos c2, B5 j (by omega) (by omega), xnew_ne _ _ _ (by omega)]
          have := A4 (j - 1) (by omega)
          rw [show (xnew xP0 (xN 10) (.inr (10, xdef 10))).1 + (j - 1) = j from (show 0 + 1 + (j - 1) = j by omega)] at this
          exact this
        · rw [if_neg c2]
          by_cases c3 : j = 136
          · rw [if_pos c3, c3]
            exact B3
          · rw [if_neg c3]
            by_cases c4 : j < 152
            · rw [if_pos c4]
              have := B4 (j - 137) (show j - 137 < 15 by omega)
              rwa [show 136 + 1 + (j - 137) = j by omega] at this
            · rw [if_neg c4, if_neg c0, B6 j (show 136 + 1 + 15 ≤ j by omega), xnew_ne _ _ _ (by omega), A6 j (show 0 + 1 + 135 ≤ j by omega), xnew_ne _ _ _ (show j ≠ 0 by omega), hv]
  · obtain ⟨n0, e⟩ := hz
    refine Lv.of (n0 + 35) fun n hn => ?_
    obtain ⟨q, rfl⟩ : ∃ q, n = q + 35 := ⟨n - 35, by omega⟩
    show b_L_law_0 (q + 35) N sc (f_L_law N sc (q + 35)) xP0 = some z
    unfold b_L_law_0
    rw [nO_ok (P := xP0) 10 (by decide) (by decide), Option.bind_some]
    have a1 := a1 q
    rw [show Value.ref xP0.1 = Value.ref 0 from rfl, a1, Option.bind_some, xU_mk, a3, Option.bind_some, b1 (q + 34), Option.bind_some, xU_mk, b3, Option.bind_some, A1, B1]
    exact e _ (by omega)
