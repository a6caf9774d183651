/-! rows of the walks; a place by moves that are told later -/
theorem eqN_T {a b : Nat} (h : a = b) : (a = b) = True := eq_true h
theorem eqN_F {a b : Nat} (h : a ≠ b) : (a = b) = False := eq_false h
section PRE46
variable {S : xH} {m : Nat → Int → Int} {q : Nat → Int → Int64} {i x l : Int}
theorem four {l : Int} (h0 : 0 ≤ l) (h1 : l < 4) : l.toNat = 0 ∨ l.toNat = 1 ∨ l.toNat = 2 ∨ l.toNat = 3 := by omega
theorem row30 (hs : Sk S) (h0 : 0 ≤ l) (h1 : l < 4) : S.2.2 (30 + 1 + l.toNat) = aSh .int 60 := by
  rcases four h0 h1 with e | e | e | e <;> rw [e]
  · exact hs.at 31
  · exact hs.at 32
  · exact hs.at 33
  · exact hs.at 34
theorem row30_s (hs : Sk S) (h0 : 0 ≤ l) (h1 : l < 4) (i0 : 0 ≤ i) (i1 : i < 60) : sI (hp S m q) (30 + 1 + l.toNat) (J i) (J x) = some (hp S (up m (30 + 1 + l.toNat) i x) q) := sI_hp (row30 hs h0 h1) (by decide) i0 i1
theorem row30_g (hs : Sk S) (h0 : 0 ≤ l) (h1 : l < 4) (i0 : 0 ≤ i) (i1 : i < 60) : aI (hp S m q) (30 + 1 + l.toNat) (J i) = some (J (m (30 + 1 + l.toNat) i)) := aI_hp (row30 hs h0 h1) (by decide) i0 i1
theorem row35 (hs : Sk S) (h0 : 0 ≤ l) (h1 : l < 4) : S.2.2 (35 + 1 + l.toNat) = aSh .int 60 := by
  rcases four h0 h1 with e | e | e | e <;> rw [e]
  · exact hs.at 36
  · exact hs.at 37
  · exact hs.at 38
  · exact hs.at 39
theorem row35_s (hs : Sk S) (h0 : 0 ≤ l) (h1 : l < 4) (i0 : 0 ≤ i) (i1 : i < 60) : sI (hp S m q) (35 + 1 + l.toNat) (J i) (J x) = some (hp S (up m (35 + 1 + l.toNat) i x) q) := sI_hp (row35 hs h0 h1) (by decide) i0 i1
theorem row35_g (hs : Sk S) (h0 : 0 ≤ l) (h1 : l < 4) (i0 : 0 ≤ i) (i1 : i < 60) : aI (hp S m q) (35 + 1 + l.toNat) (J i) = some (J (m (35 + 1 + l.toNat) i)) := aI_hp (row35 hs h0 h1) (by decide) i0 i1
theorem row40 (hs : Sk S) (h0 : 0 ≤ l) (h1 : l < 4) : S.2.2 (40 + 1 + l.toNat) = aSh .int 60 := by
  rcases four h0 h1 with e | e | e | e <;> rw [e]
  · exact hs.at 41
  · exact hs.at 42
  · exact hs.at 43
  · exact hs.at 44
theorem row40_s (hs : Sk S) (h0 : 0 ≤ l) (h1 : l < 4) (i0 : 0 ≤ i) (i1 : i < 60) : sI (hp S m q) (40 + 1 + l.toNat) (J i) (J x) = some (hp S (up m (40 + 1 + l.toNat) i x) q) := sI_hp (row40 hs h0 h1) (by decide) i0 i1
theorem row40_g (hs : Sk S) (h0 : 0 ≤ l) (h1 : l < 4) (i0 : 0 ≤ i) (i1 : i < 60) : aI (hp S m q) (40 + 1 + l.toNat) (J i) = some (J (m (40 + 1 + l.toNat) i)) := aI_hp (row40 hs h0 h1) (by decide) i0 i1
end PRE46
theorem plcF_cg {w w' : Int → Int} {l p t : Int} : ∀ n : Nat, (∀ i, 41 + 180 * l ≤ i → i < 41 + 180 * l + 3 * n → w' i = w i) → 0 ≤ l → plcF w' l p t n = plcF w l p t n ∧ (0 ≤ plcF w l p t n → 41 + 180 * l ≤ plcF w l p t n ∧ plcF w l p t n + 2 < 41 + 180 * l + 3 * n)
  | 0, _, _ => ⟨rfl, fun h => absurd h (by simp [plcF])⟩
  | n + 1, e, l0 => by
    obtain ⟨i1, i2⟩ := plcF_cg (l := l) (p := p) (t := t) n (fun i h1 h2 => e i h1 (by omega)) l0
    have a1 := e (41 + 3 * (60 * l + n)) (by omega) (by omega)
    have a2 := e (41 + 3 * (60 * l + n) + 1) (by omega) (by omega)
    have a3 : plcF w l p t n < 0 ∨ w' (plcF w l p t n + 1) = w (plcF w l p t n + 1) := by
      by_cases c : plcF w l p t n < 0
      · exact Or.inl c
      · have := i2 (by omega)
        exact Or.inr (e _ (by omega) (by omega))
    constructor
    · rw [plcF, plcF, i1, a1, a2]
      rcases a3 with a3 | a3
      · simp only [a3, true_or]
      · rw [a3]
    · rw [plcF]
      split
      · intro _
        omega
      · intro h
        have := i2 h
        omega
/-- a move of a later tick changes no place of now -/
theorem plcA_add {w w' : Int → Int} {l p t : Int} (l0 : 0 ≤ l) (h0 : 0 ≤ w (2 + l)) (ht : w' (11 + 3 * p + 0) = w (11 + 3 * p + 0)) (e : ∀ i, 41 + 180 * l ≤ i → i < 41 + 180 * l + 3 * w (2 + l) → w' i = w i) (h : w' (2 + l) = w (2 + l) ∨ (w' (2 + l) = w (2 + l) + 1 ∧ t < w' (41 + 3 * (60 * l + w (2 + l)) + 1))) : plcA w' l p t = plcA w l p t := by
  unfold plcA
  obtain ⟨i1, i2⟩ := plcF_cg (w := w) (w' := w') (l := l) (p := p) (t := t) (w (2 + l)).toNat (fun i a b => e i a (by omega)) l0
  have i3 : plcF w' l p t (w' (2 + l)).toNat = plcF w l p t (w (2 + l)).toNat := by
    rcases h with h | ⟨h, h2⟩
    · rw [h]
      exact i1
    · rw [h, show (w (2 + l) + 1).toNat = (w (2 + l)).toNat + 1 by omega, plcF, show (((w (2 + l)).toNat : Nat) : Int) = w (2 + l) by omega, if_neg (by omega)]
      exact i1
  rw [i3, ht]
  by_cases c : plcF w l p t (w (2 + l)).toNat < 0
  · rw [if_pos c, if_pos c]
  · have := i2 (by omega)
    rw [if_neg c, if_neg c, e _ (by omega) (by omega)]
