/-! what the tent had stays -/
section STAY
variable {S : xH} {m m' m0 : Nat → Int → Int} {q q' : Nat → Int → Int64} {told gi ta x y pa pb l : Int} {w v v' g : Int → Int} {da db : Nat} {ln sp : Int} {kd nm bg so : Int → Int}
theorem cmS_h {p nu ho fr wy mo : Int} (p0 : 0 ≤ p) (p1 : p < 10) (y0 : 0 ≤ y) (y1 : y < 30) (x0 : 0 ≤ x) (h : x ≠ y ∨ 0 ≤ v (2151 + 5 * x + 0)) : cmS v p y nu ho fr wy mo (2151 + 5 * x + 0) = v (2151 + 5 * x + 0) := by
  unfold cmS
  split
  · rename_i c
    have ne : x ≠ y := by
      intro z
      rw [z] at h
      omega
    rw [hdS_o (by omega), ppS_o (by omega)]
  · rw [ppS_o (by omega)]
theorem haS_h (R : Rrul ln sp kd nm bg so g) (W : Wok w) (g0 : 0 ≤ gi) (g1 : gi < w 0) (t0 : 0 ≤ ta) (t1 : ta < w 0) (y0 : 0 ≤ y) (y1 : y < w 1) (x0 : 0 ≤ x) (h : 0 ≤ v (2151 + 5 * x + 0)) : haS w v g gi ta y (2151 + 5 * x + 0) = v (2151 + 5 * x + 0) := by
  have tw := W.1.2.1
  have w1 := W.2.1
  have eA : haA w v g ta (2151 + 5 * x + 0) = v (2151 + 5 * x + 0) := by
    unfold haA
    split
    · rename_i c
      have rm := W.1.2.2 ta t0 t1
      have L := lsO_in (w := w) (v := v) (p := ta) R 30
      have ex := lsO_ex (w := w) (v := v) (g := g) (p := ta) 30 (by omega)
      unfold gvS loS
      rw [ups_ne (by omega), ups_ne (by omega)]
    · rfl
  have eU : unS w (haA w v g ta) ta y (2151 + 5 * x + 0) = v (2151 + 5 * x + 0) := by rw [unS_o (Or.inr (by omega)) W t0 (by omega) y0 y1, eA]
  unfold haS haC
  rw [ups_ne (by omega), ups_ne (by omega), ups_ne (by omega), ups_ne (by omega)]
  unfold haB
  rw [cmS_h t0 (by omega) y0 (by omega) x0 (Or.inr (by rw [eU]; exact h)), eU]
theorem VX.meetH (R : Rrul ln sp kd nm bg so g) (a0 : 0 ≤ pa) (a1 : pa < w 0) (b0 : 0 ≤ pb) (b1 : pb < w 0) (x0 : 0 ≤ x) : ∀ (k : Nat) (v : Int → Int) (da db : Nat), VX told w v g → 0 ≤ v (2151 + 5 * x + 0) → mtS w g pa pb k v da db (2151 + 5 * x + 0) = v (2151 + 5 * x + 0)
  | 0, v, da, db, X, _ => rfl
  | k + 1, v, da, db, X, h => by
    by_cases c : 0 < v (1 + 5 * pa + 1) ∧ 0 < v (1 + 5 * pb + 1) ∧ 0 ≤ (rfS w v g pa pb da db 30).1
    · obtain ⟨y, yb, y2, y3, X1, -, -⟩ := X.pick R a0 a1 b0 b1 c.1 c.2.1 c.2.2
      have v1 := X.vok.1
      rw [mtS, if_pos c, y2]
      have e : (nxS w v g pa pb da db y).1 (2151 + 5 * x + 0) = v (2151 + 5 * x + 0) := by
        rcases y3 with ⟨-, -, -, en⟩ | ⟨-, -, -, en⟩
        · rw [en]
          exact haS_h R X.wok a0 a1 b0 b1 yb.1 (by omega) x0 h
        · rw [en]
          exact haS_h R X.wok b0 b1 a0 a1 yb.1 (by omega) x0 h
      rw [VX.meetH R a0 a1 b0 b1 x0 k _ _ _ X1 (by rw [e]; exact h), e]
    · rw [mtS, if_neg c]
theorem VX.mbH (R : Rrul ln sp kd nm bg so g) (a0 : 0 ≤ pa) (a1 : pa < w 0) (x0 : 0 ≤ x) : ∀ (k : Nat) (v : Int → Int), (k : Int) ≤ w 0 → VX told w v g → 0 ≤ v (2151 + 5 * x + 0) → mbS w g pa k v (2151 + 5 * x + 0) = v (2151 + 5 * x + 0)
  | 0, v, _, X, _ => rfl
  | k + 1, v, hk, X, h => by
    rw [mbS]
    by_cases c : v (1 + 5 * pa + 0) = v (1 + 5 * (w 0 - (k + 1 : Nat)) + 0)
    · rw [if_pos c]
      have e := VX.meetH (pa := pa) (pb := w 0 - (k + 1 : Nat)) R a0 a1 (by omega) (by omega) x0 2000 v 0 0 X h
      obtain ⟨X1, -⟩ := VX.meet (pa := pa) (pb := w 0 - (k + 1 : Nat)) R a0 a1 (by omega) (by omega) 2000 v 0 0 X
      rw [VX.mbH R a0 a1 x0 k _ (by omega) X1 (by rw [e]; exact h), e]
    · rw [if_neg c]
      exact VX.mbH R a0 a1 x0 k v (by omega) X h
theorem VX.msH (R : Rrul ln sp kd nm bg so g) (x0 : 0 ≤ x) : ∀ (k : Nat) (v : Int → Int), (k : Int) ≤ w 0 → VX told w v g → 0 ≤ v (2151 + 5 * x + 0) → msS w g k v (2151 + 5 * x + 0) = v (2151 + 5 * x + 0)
  | 0, v, _, X, _ => rfl
  | k + 1, v, hk, X, h => by
    rw [msS]
    have e := VX.mbH (pa := w 0 - (k + 1 : Nat)) R (by omega) (by omega) x0 k v (by omega) X h
    obtain ⟨X1, -⟩ := VX.mb (pa := w 0 - (k + 1 : Nat)) R (by omega) (by omega) k v (by omega) X
    rw [VX.msH R x0 k _ (by omega) X1 (by rw [e]; exact h), e]
theorem VX.stH (R : Rrul ln sp kd nm bg so g) (X : VX told w v g) (K : Kok w l) (h4 : v 0 < 400) (x0 : 0 ≤ x) (h : 0 ≤ v (2151 + 5 * x + 0)) : stS w g l v (2151 + 5 * x + 0) = v (2151 + 5 * x + 0) := by
  have tw := X.wok.1.2.1
  have tw0 := X.wok.1.1
  have X2 := (X.plc K h4).dead
  rw [pcS_0 tw] at X2
  have e : fdS w (pcS w l v) (v 0 + 1) (2151 + 5 * x + 0) = v (2151 + 5 * x + 0) := by rw [fdS_o (by omega), pcS_o tw (by omega) (fun p _ _ => by omega)]
  unfold stS
  rw [VX.msH R x0 (w 0).toNat _ (by omega) X2 (by rw [e]; exact h), e]
theorem tlS_h (R : Rrul ln sp kd nm bg so g) (W : Wok w) (y0 : 0 ≤ y) (y1 : y < w 1) (x0 : 0 ≤ x) (ne : x ≠ y) : tlS w v g y (2151 + 5 * x + 0) = v (2151 + 5 * x + 0) := by
  have wx := (W.2.2 y y0 y1).1
  have tw := W.1.2.1
  have w1 := W.2.1
  have rm := W.1.2.2 (w (761 + 10 * y + 1)) (by omega) (by omega)
  have e1 : t1S w v y (2151 + 5 * x + 0) = v (2151 + 5 * x + 0) := by
    unfold t1S
    rw [unS_o (by omega) W (by omega) (by omega) y0 y1, ups_ne (by omega)]
  have e2 : t2S w v g y (2151 + 5 * x + 0) = v (2151 + 5 * x + 0) := by
    unfold t2S
    split
    · rename_i c
      have L := lsO_in (w := w) (v := t1S w v y) (p := w (761 + 10 * y + 1)) R 30
      have ex := lsO_ex (w := w) (v := t1S w v y) (g := g) (p := w (761 + 10 * y + 1)) 30 (by omega)
      unfold gvS loS
      rw [ups_ne (by omega), ups_ne (by omega), e1]
    · exact e1
  unfold tlS
  rw [cmS_h (by omega) (by omega) y0 (by omega) x0 (Or.inl ne), e2]
theorem tdS_h (R : Rrul ln sp kd nm bg so g) (x0 : 0 ≤ x) : ∀ (k : Nat) (told : Int) (v : Int → Int), told + k = w 1 → VX told w v g → x < told → (tdS w g k (told, v)).2 (2151 + 5 * x + 0) = v (2151 + 5 * x + 0)
  | 0, told, v, _, _, _ => rfl
  | k + 1, told, v, hk, X, h => by
    have t0 := X.vok.1.2.2.1
    by_cases c : w (761 + 10 * told + 2) ≤ v 0
    · have e : tdS w g (k + 1) (told, v) = tdS w g k (told + 1, tlS w v g told) := if_pos c
      rw [e, tdS_h R x0 k (told + 1) _ (by omega) (X.tell (by omega)) (by omega), tlS_h R X.wok t0 (by omega) x0 (by omega)]
    · have e : tdS w g (k + 1) (told, v) = (told, v) := if_neg c
      rw [e]
theorem rnS_h (R : Rrul ln sp kd nm bg so g) (srt : SRT w) (K : Kok w l) (x0 : 0 ≤ x) : ∀ (n : Nat) (told : Int) (v : Int → Int), VX told w v g → LIN told w v → v 0 + n ≤ 400 → x < told → 0 ≤ v (2151 + 5 * x + 0) → (rnS w g l n (told, v)).2 (2151 + 5 * x + 0) = v (2151 + 5 * x + 0)
  | 0, told, v, _, _, _, _, _ => rfl
  | n + 1, told, v, X, L, hn, hx, h => by
    have v1 := X.vok.1
    obtain ⟨X1, s1, -⟩ := VX.step R X K (by omega)
    obtain ⟨X2, L2, -, s2, t2⟩ := nsS_ok R srt K X L (by omega)
    have e1 := VX.stH R X K (by omega) x0 h
    have e2 : (nsS w g l (told, v)).2 (2151 + 5 * x + 0) = v (2151 + 5 * x + 0) := by
      unfold nsS
      rw [tdS_h R x0 _ told (stS w g l v) (by omega) X1 hx, e1]
    rw [rnS]
    have := rnS_h R srt K x0 n (nsS w g l (told, v)).1 (nsS w g l (told, v)).2 X2 L2 (by omega) (by omega) (by rw [e2]; exact h)
    exact this.trans e2
end STAY
