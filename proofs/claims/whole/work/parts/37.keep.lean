/-! the live town's parts over a memory that is alike where they look -/
section KEEP
variable {S S' : xH} {m m' : Nat → Int → Int} {q q' : Nat → Int → Int64}
theorem k_tap (h : Rtap (m 1 2) (m 1 3) (m 8) (m 136 9) (m 136 14) (m 141)) (e : ∀ b i, (b = 1 ∧ (i = 2 ∨ i = 3)) ∨ b = 8 ∨ (b = 136 ∧ (i = 9 ∨ i = 14)) ∨ b = 141 → m' b i = m b i) : Rtap (m' 1 2) (m' 1 3) (m' 8) (m' 136 9) (m' 136 14) (m' 141) := by
  rw [e 1 2 (by omega), e 1 3 (by omega), e 136 9 (by omega), e 136 14 (by omega), show m' 8 = m 8 from funext fun i => e 8 i (by omega), show m' 141 = m 141 from funext fun i => e 141 i (by omega)]
  exact h
theorem k_par (h : Rpar (m 9 8) (m 93 6) (m 139)) (e : ∀ b i, (b = 9 ∧ i = 8) ∨ (b = 93 ∧ i = 6) ∨ (b = 139 ∧ (i = 6 ∨ i = 7)) → m' b i = m b i) : Rpar (m' 9 8) (m' 93 6) (m' 139) := by
  rw [e 9 8 (by omega), e 93 6 (by omega)]
  exact h.w (e _ _ (by omega)) (e _ _ (by omega))
theorem k_hid (h : Rhid (m 9 9) (m 139)) (e : ∀ b i, (b = 9 ∧ i = 9) ∨ (b = 139 ∧ 1120 ≤ i ∧ i < 1136) → m' b i = m b i) : Rhid (m' 9 9) (m' 139) := by
  rw [e 9 9 (by omega)]
  exact h.w (fun i a b => e _ _ (by omega))
theorem k_prt (h : Rprt (m 93 5) (m 94) (m 95) (m 96) (m 139)) (e : ∀ b i, (b = 93 ∧ i = 5) ∨ b = 94 ∨ b = 95 ∨ b = 96 ∨ (b = 139 ∧ (i = 8 ∨ 1061 ≤ i ∧ i < 1082)) → m' b i = m b i) : Rprt (m' 93 5) (m' 94) (m' 95) (m' 96) (m' 139) := by
  rw [e 93 5 (by omega), show m' 94 = m 94 from funext fun i => e 94 i (by omega), show m' 95 = m 95 from funext fun i => e 95 i (by omega), show m' 96 = m 96 from funext fun i => e 96 i (by omega)]
  exact h.w (e _ _ (by omega)) (fun i a b => e _ _ (by omega))
theorem k_sto (h : Rsto (m 99 5) (m 101) (m 102) (m 103) (m 104) (m 105) (m 106) (m 139)) (e : ∀ b i, (b = 99 ∧ i = 5) ∨ (101 ≤ b ∧ b ≤ 106) ∨ (b = 139 ∧ (i = 9 ∨ 1082 ≤ i ∧ i < 1112)) → m' b i = m b i) : Rsto (m' 99 5) (m' 101) (m' 102) (m' 103) (m' 104) (m' 105) (m' 106) (m' 139) := by
  rw [e 99 5 (by omega), show m' 101 = m 101 from funext fun i => e 101 i (by omega), show m' 102 = m 102 from funext fun i => e 102 i (by omega), show m' 103 = m 103 from funext fun i => e 103 i (by omega), show m' 104 = m 104 from funext fun i => e 104 i (by omega), show m' 105 = m 105 from funext fun i => e 105 i (by omega), show m' 106 = m 106 from funext fun i => e 106 i (by omega)]
  exact h.w (e _ _ (by omega)) (fun i a b => e _ _ (by omega))
theorem k_gan (h : Rgan (m 99 6) (m 107) (m 108) (m 139)) (e : ∀ b i, (b = 99 ∧ i = 6) ∨ (107 ≤ b ∧ b ≤ 108) ∨ (b = 139 ∧ (i = 10 ∨ 1112 ≤ i ∧ i < 1120)) → m' b i = m b i) : Rgan (m' 99 6) (m' 107) (m' 108) (m' 139) := by
  rw [e 99 6 (by omega), show m' 107 = m 107 from funext fun i => e 107 i (by omega), show m' 108 = m 108 from funext fun i => e 108 i (by omega)]
  exact h.w (e _ _ (by omega)) (fun i a b => e _ _ (by omega))
theorem k_wrd (h : Rwrd (m 16 3) (fun k => if k = 9 then m 28 else m (18 + k.toNat)) (m 27) (m 139) (m 137)) (e : ∀ b i, (b = 16 ∧ i = 3) ∨ (18 ≤ b ∧ b ≤ 28) ∨ (b = 139 ∧ (i = 0 ∨ i = 1 ∨ 761 ≤ i ∧ i < 1061)) → m' b i = m b i) (ev : m 137 0 ≤ m' 137 0) : Rwrd (m' 16 3) (fun k => if k = 9 then m' 28 else m' (18 + k.toNat)) (m' 27) (m' 139) (m' 137) := by
  rw [e 16 3 (by omega)]
  refine h.w (fun k x k0 k1 x0 x1 => ?_) (funext fun i => e 27 i (by omega)) (e _ _ (by omega)) (e _ _ (by omega)) (fun i a b => e _ _ (by omega)) ev
  by_cases c : k = 9
  · simp only [c, if_true]
    exact e 28 x (by omega)
  · simp only [c, if_false]
    exact e _ _ (by omega)
theorem k_wlk (h : Rwlk (m 45) (fun l => m (31 + l.toNat)) (fun l => m (36 + l.toNat)) (fun l => m (41 + l.toNat)) (m 139)) (e : ∀ b i, (31 ≤ b ∧ b ≤ 34) ∨ (36 ≤ b ∧ b ≤ 39) ∨ (41 ≤ b ∧ b ≤ 45) ∨ (b = 139 ∧ (i = 0 ∨ 2 ≤ i ∧ i < 6 ∨ 41 ≤ i ∧ i < 761)) → m' b i = m b i) : Rwlk (m' 45) (fun l => m' (31 + l.toNat)) (fun l => m' (36 + l.toNat)) (fun l => m' (41 + l.toNat)) (m' 139) :=
  h.w (funext fun i => e 45 i (by omega)) (fun l l0 l1 => funext fun i => e _ i (by omega)) (fun l l0 l1 => funext fun i => e _ i (by omega)) (fun l l0 l1 => funext fun i => e _ i (by omega)) (e _ _ (by omega)) (fun i a b => e _ _ (by omega)) (fun i a b => e _ _ (by omega))
theorem k_row (h : Rrow (m 90 2) (m 91) (m 92) (m 139) (m 137)) (hv : m 137 0 ≤ 400) (e : ∀ b i, (b = 90 ∧ i = 2) ∨ b = 91 ∨ b = 92 ∨ (b = 139 ∧ 1136 ≤ i ∧ i < 1938) ∨ (b = 137 ∧ i = 0) → m' b i = m b i) : Rrow (m' 90 2) (m' 91) (m' 92) (m' 139) (m' 137) := by
  rw [e 90 2 (by omega), show m' 91 = m 91 from funext fun i => e 91 i (by omega), show m' 92 = m 92 from funext fun i => e 92 i (by omega)]
  exact h.w (fun i a b => e _ _ (by omega)) (e _ _ (by omega)) hv
theorem k_rul (h : Rrul (m 10 3) (m 10 5) (m 11) (m 12) (m 13) (m 14) (fun k => m 139 (4239 + k))) (e : ∀ b i, (b = 10 ∧ (i = 3 ∨ i = 5)) ∨ (11 ≤ b ∧ b ≤ 14) ∨ (b = 139 ∧ 4239 ≤ i ∧ i < 5080) → m' b i = m b i) : Rrul (m' 10 3) (m' 10 5) (m' 11) (m' 12) (m' 13) (m' 14) (fun k => m' 139 (4239 + k)) := by
  rw [e 10 3 (by omega), e 10 5 (by omega), show m' 11 = m 11 from funext fun i => e 11 i (by omega), show m' 12 = m 12 from funext fun i => e 12 i (by omega), show m' 13 = m 13 from funext fun i => e 13 i (by omega), show m' 14 = m 14 from funext fun i => e 14 i (by omega)]
  exact h.w (fun i a b => e _ _ (by omega))
theorem k_tol (h : Rtol (m 139)) (e : ∀ b i, b = 139 ∧ (i = 0 ∨ 11 ≤ i ∧ i < 41) → m' b i = m b i) : Rtol (m' 139) := h.w (e _ _ (by omega)) (fun i a b => e _ _ (by omega))
theorem k_plc (h : Rplc 0 (m 139) (m 137)) (hw : m 139 0 ≤ 10) (hn : m 139 2 ≤ 60) (e : ∀ b i, (b = 139 ∧ (i = 0 ∨ 2 ≤ i ∧ i < 6 ∨ 11 ≤ i ∧ i < 761)) ∨ (b = 137 ∧ 0 ≤ i ∧ i < 51) → m' b i = m b i) : Rplc 0 (m' 139) (m' 137) :=
  h.w hw (by omega) (by omega) hn (e _ _ (by omega)) (fun i a b => e _ _ (by omega)) (fun i a b => e _ _ (by omega)) (fun i a b => e _ _ (by omega)) (fun i a b => e _ _ (by omega))
theorem k_net (h : Rnet (fun o => m (46 + o)) (fun o => q (46 + o)) (m 139 1) (m 139) (m 137)) (hw : m 139 0 ≤ 10) (hw1 : m 139 1 ≤ 30) (e : ∀ b i, (b = 46 ∧ 2 ≤ i ∧ i ≤ 4) ∨ (48 ≤ b ∧ b ≤ 65) ∨ (b = 139 ∧ (i = 0 ∨ i = 1 ∨ 11 ≤ i ∧ i < 41)) ∨ (b = 137 ∧ 0 ≤ i ∧ i < 2301) → m' b i = m b i) (eq : ∀ b, 61 ≤ b → b ≤ 66 → q' b = q b) : Rnet (fun o => m' (46 + o)) (fun o => q' (46 + o)) (m' 139 1) (m' 139) (m' 137) := by
  rw [e 139 1 (by omega)]
  exact h.congr hw (fun i a b => e _ _ (by omega)) (fun o a b => funext fun i => e _ _ (by omega)) (fun o a b => eq _ (by omega) (by omega)) (e _ _ (by omega)) (by rw [e 139 1 (by omega)]; omega) (fun i a b => e _ _ (by omega)) (fun i a b => e _ _ (by omega)) hw1
theorem k_dwn (h : Rdwn (fun o => m (68 + o)) (fun o => q (68 + o)) (m 139) (m 137)) (hw : m 139 0 ≤ 10) (hw1 : m 139 1 ≤ 30) (e : ∀ b i, (b = 68 ∧ 2 ≤ i ∧ i ≤ 4) ∨ (70 ≤ b ∧ b ≤ 87) ∨ (b = 139 ∧ (i = 0 ∨ i = 1 ∨ 11 ≤ i ∧ i < 41 ∨ 761 ≤ i ∧ i < 1061 ∧ (i - 763) % 10 = 0 ∨ 1938 ≤ i ∧ i < 4239)) ∨ (b = 137 ∧ i = 0) → m' b i = m b i) (eq : ∀ b, 83 ≤ b → b ≤ 88 → q' b = q b) : Rdwn (fun o => m' (68 + o)) (fun o => q' (68 + o)) (m' 139) (m' 137) :=
  h.congr hw hw1 (fun i a b => e _ _ (by omega)) (fun o a b => funext fun i => e _ _ (by omega)) (fun o a b => eq _ (by omega) (by omega)) (e _ _ (by omega)) (e _ _ (by omega)) (fun i a b => e _ _ (by omega)) (fun i a b => e _ _ (by omega)) (fun i a b => e _ _ (by omega)) (e _ _ (by omega))
/-- a skeleton that has grown -/
def Grow (S S' : xH) : Prop := S.1 ≤ S'.1 ∧ ∀ j, j < S.1 → S'.2.2 j = S.2.2 j
theorem Grow.rfl' (S : xH) : Grow S S := ⟨Nat.le_refl _, fun _ _ => rfl⟩
theorem Grow.th (S : xH) (k : Nat) : Grow S (xth S k) := ⟨Nat.le_succ _, fun j h => xth_ne S k (by omega)⟩
theorem Sk.grow (h : Sk S) (g : Grow S S') (hr : 153 ≤ S.1) : Sk S' := by
  obtain ⟨h1, ⟨v, h2⟩, r, hr2, h3⟩ := h
  exact ⟨fun j a b c => (g.2 j (by omega)).trans (h1 j a b c), ⟨v, (g.2 0 (by omega)).trans h2⟩, r, hr2, (g.2 111 (by omega)).trans h3⟩
theorem k_kep (h : Rkep S m q) (g : Grow S S') (hr : 153 ≤ S.1) (e : ∀ b i, (b = 136 ∧ i = 5) ∨ (b = 5 ∧ i = 0) ∨ b = 140 ∨ 153 ≤ b → m' b i = m b i) (eq : ∀ b, 153 ≤ b → q' b = q b) : Rkep S' m' q' := by
  unfold Rkep at *
  refine ⟨(e 5 0 (by omega)).trans h.1, ?_⟩
  replace h := h.2
  rw [e 136 5 (by omega), g.2 0 (by omega), show m' 140 = m 140 from funext fun i => e 140 i (by omega)]
  rcases h with h | ⟨h1, K, k1, k2, k3, k4, k5, k6, k7, k8, k9, k10, k11, k12, k13⟩
  · exact Or.inl h
  · have er : ∀ o, m' (K + o) = m (K + o) := fun o => funext fun i => e _ _ (by omega)
    have eo : ∀ o, q' (K + o) = q (K + o) := fun o => eq _ (by omega)
    have es : ∀ o, o ≤ 101 → S'.2.2 (K + o) = S.2.2 (K + o) := fun o ho => g.2 _ (by omega)
    refine Or.inr ⟨h1, K, k1, by have := g.1; omega, k3, (es 0 (by omega)).trans k4, ?_, ?_, ?_, ?_, ?_, ?_, ?_, ?_, ?_⟩
    · unfold RulS at *
      simp only [Nat.add_assoc] at *
      simp (disch := omega) only [es]
      exact k5
    · unfold WrdS at *
      simp only [Nat.add_assoc] at *
      simp (disch := omega) only [es]
      exact k6
    · unfold WlkS at *
      simp only [Nat.add_assoc] at *
      simp (disch := omega) only [es]
      exact k7
    · unfold NetS at *
      simp only [Nat.add_assoc] at *
      simp (disch := omega) only [es]
      exact k8
    · unfold NetS at *
      simp only [Nat.add_assoc] at *
      simp (disch := omega) only [es]
      exact k9
    · unfold RowS at *
      simp only [Nat.add_assoc] at *
      simp (disch := omega) only [es]
      exact k10
    · unfold ParS at *
      simp only [Nat.add_assoc] at *
      simp (disch := omega) only [es]
      exact k11
    · unfold HelS at *
      simp only [Nat.add_assoc] at *
      simp (disch := omega) only [es]
      exact k12
    · unfold Rtown at *
      have e0 : m' K = m K := er 0
      simp only [Nat.add_assoc] at k13 ⊢
      simp only [er, eo, e0]
      exact k13
end KEEP
