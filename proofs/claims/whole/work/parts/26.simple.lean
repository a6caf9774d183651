/-! shapes behind the constructors; small methods -/
set_option maxRecDepth 20000 in
theorem sp0 (j : Nat) (hj : j < 153) : shp (cell0 j) = sOf j := by
  match j, hj with
  | 0, _ => rfl
  | 1, _ => rfl
  | 2, _ => rfl
  | 3, _ => rfl
  | 4, _ => rfl
  | 5, _ => rfl
  | 6, _ => rfl
  | 7, _ => rfl
  | 8, _ => rfl
  | 9, _ => rfl
  | 10, _ => rfl
  | 11, _ => rfl
  | 12, _ => rfl
  | 13, _ => rfl
  | 14, _ => rfl
  | 15, _ => rfl
  | 16, _ => rfl
  | 17, _ => rfl
  | 18, _ => rfl
  | 19, _ => rfl
  | 20, _ => rfl
  | 21, _ => rfl
  | 22, _ => rfl
  | 23, _ => rfl
  | 24, _ => rfl
  | 25, _ => rfl
  | 26, _ => rfl
  | 27, _ => rfl
  | 28, _ => rfl
  | 29, _ => rfl
  | 30, _ => rfl
  | 31, _ => rfl
  | 32, _ => rfl
  | 33, _ => rfl
  | 34, _ => rfl
  | 35, _ => rfl
  | 36, _ => rfl
  | 37, _ => rfl
  | 38, _ => rfl
  | 39, _ => rfl
  | 40, _ => rfl
  | 41, _ => rfl
  | 42, _ => rfl
  | 43, _ => rfl
  | 44, _ => rfl
  | 45, _ => rfl
  | 46, _ => rfl
  | 47, _ => rfl
  | 48, _ => rfl
  | 49, _ => rfl
  | 50, _ => rfl
  | 51, _ => rfl
  | 52, _ => rfl
  | 53, _ => rfl
  | 54, _ => rfl
  | 55, _ => rfl
  | 56, _ => rfl
  | 57, _ => rfl
  | 58, _ => rfl
  | 59, _ => rfl
  | 60, _ => rfl
  | 61, _ => rfl
  | 62, _ => rfl
  | 63, _ => rfl
  | 64, _ => rfl
  | 65, _ => rfl
  | 66, _ => rfl
  | 67, _ => rfl
  | 68, _ => rfl
  | 69, _ => rfl
  | 70, _ => rfl
  | 71, _ => rfl
  | 72, _ => rfl
  | 73, _ => rfl
  | 74, _ => rfl
  | 75, _ => rfl
  | 76, _ => rfl
  | 77, _ => rfl
  | 78, _ => rfl
  | 79, _ => rfl
  | 80, _ => rfl
  | 81, _ => rfl
  | 82, _ => rfl
  | 83, _ => rfl
  | 84, _ => rfl
  | 85, _ => rfl
  | 86, _ => rfl
  | 87, _ => rfl
  | 88, _ => rfl
  | 89, _ => rfl
  | 90, _ => rfl
  | 91, _ => rfl
  | 92, _ => rfl
  | 93, _ => rfl
  | 94, _ => rfl
  | 95, _ => rfl
  | 96, _ => rfl
  | 97, _ => rfl
  | 98, _ => rfl
  | 99, _ => rfl
  | 100, _ => rfl
  | 101, _ => rfl
  | 102, _ => rfl
  | 103, _ => rfl
  | 104, _ => rfl
  | 105, _ => rfl
  | 106, _ => rfl
  | 107, _ => rfl
  | 108, _ => rfl
  | 109, _ => rfl
  | 110, _ => rfl
  | 111, _ => rfl
  | 112, _ => rfl
  | 113, _ => rfl
  | 114, _ => rfl
  | 115, _ => rfl
  | 116, _ => rfl
  | 117, _ => rfl
  | 118, _ => rfl
  | 119, _ => rfl
  | 120, _ => rfl
  | 121, _ => rfl
  | 122, _ => rfl
  | 123, _ => rfl
  | 124, _ => rfl
  | 125, _ => rfl
  | 126, _ => rfl
  | 127, _ => rfl
  | 128, _ => rfl
  | 129, _ => rfl
  | 130, _ => rfl
  | 131, _ => rfl
  | 132, _ => rfl
  | 133, _ => rfl
  | 134, _ => rfl
  | 135, _ => rfl
  | 136, _ => rfl
  | 137, _ => rfl
  | 138, _ => rfl
  | 139, _ => rfl
  | 140, _ => rfl
  | 141, _ => rfl
  | 142, _ => rfl
  | 143, _ => rfl
  | 144, _ => rfl
  | 145, _ => rfl
  | 146, _ => rfl
  | 147, _ => rfl
  | 148, _ => rfl
  | 149, _ => rfl
  | 150, _ => rfl
  | 151, _ => rfl
  | 152, _ => rfl
  | j + 153, h => exact absurd h (by omega)
/-- what stays: all cells but the class's own object (its kept Town) and the trial net (its rules) -/
def KS (P : xH) : Prop := (∀ j, 0 < j → j < 153 → j ≠ 111 → Sp P j = sOf j) ∧ (∃ v : Value, (v = .null ∨ ∃ r, v = .ref r) ∧ Sp P 0 = .inr (10, [.ref 1, .ref 9, .ref 111, .ref 133, v]))
theorem KS.at {P : xH} (h : KS P) (j : Nat) (h1 : 0 < j := by decide) (h2 : j < 153 := by decide) (h3 : j ≠ 111 := by decide) : Sp P j = sOf j := h.1 j h1 h2 h3
theorem KS.reader {P : xH} (h : KS P) : rA P 0 10 0 = some 1 := by
  obtain ⟨-, v, -, hs⟩ := h
  exact rA_sp hs rfl
theorem KS.town {P : xH} (h : KS P) : rA P 0 10 1 = some 9 := by
  obtain ⟨-, v, -, hs⟩ := h
  exact rA_sp hs rfl
theorem KS.wX {P : xH} (h : KS P) {o k c : Nat} {x : Int32} {fs : List Value} (hs : Sp P o = .inr (c, fs)) (hk : fs[k]? = some (.int 0)) : KS (wX P o k x) :=
  ⟨fun j a b d => (Sp_wX hs hk j).trans (h.1 j a b d), by
    obtain ⟨-, v, hv, h0⟩ := h
    exact ⟨v, hv, (Sp_wX hs hk 0).trans h0⟩⟩
theorem KS.wI {P : xH} (h : KS P) (a i : Nat) (x : Int32) : KS (wI P a i x) :=
  ⟨fun j q b d => (Sp_wI P a i x j).trans (h.1 j q b d), by
    obtain ⟨-, v, hv, h0⟩ := h
    exact ⟨v, hv, (Sp_wI P a i x 0).trans h0⟩⟩
theorem Ev.of {f : Nat → Nat → List Value → xH → xO} {as : List Value} {P P' : xH} {r : xR} (c : Nat) (h : ∀ n, f (n + c) 0 as P = some (r, P')) : Ev f as P r P' :=
  ⟨c, fun n hn => by
    obtain ⟨q, rfl⟩ : ∃ q, n = q + c := ⟨n - c, by omega⟩
    exact h q⟩
theorem m_thrown {P : xH} (h : KS P) (n : Nat) : f_X11_thrown (n + 1) 0 [.ref 136] P = some (.inl (some (.int (gX P 136 0))), P) := by
  show b_X11_thrown_0 n (f_X11_thrown n) 136 P = _
  unfold b_X11_thrown_0
  rw [rI_sp (h.at 136) rfl, Option.bind_some]
theorem m_in (x lo hi : Int32) (P : xH) (n : Nat) : f_X11_in (n + 1) 0 [.int x, .int lo, .int hi] P = some (.inl (some (.int (if lo ≤ x ∧ x ≤ hi then 1 else 0))), P) := by
  show b_X11_in_0 n (f_X11_in n) x lo hi P = _
  unfold b_X11_in_0
  by_cases h1 : x < lo
  · rw [if_pos h1, if_neg (fun q => Int32.not_le.mpr h1 q.1)]
  · rw [if_neg h1]
    by_cases h2 : hi < x
    · rw [if_pos h2, if_neg (fun q => Int32.not_le.mpr h2 q.2)]
    · rw [if_neg h2, if_pos ⟨Int32.not_lt.mp h1, Int32.not_lt.mp h2⟩]
theorem m_throwsIf {P : xH} (h : KS P) {b : Int32} (hb : b = 0 ∨ b = 1) (c : Int32) (n : Nat) : f_X11_throwsIf (n + 1) 0 [.ref 136, .int b, .int c] P = some (.inl (some (.int b)), if b = 0 then P else wX P 136 0 c) := by
  show b_X11_throwsIf_0 n (f_X11_throwsIf n) 136 b c P = _
  unfold b_X11_throwsIf_0
  by_cases h1 : b = 0
  · rw [if_pos h1, if_pos h1, if_pos hb]
  · rw [if_neg h1, if_neg h1, wV_sp (h.at 136) rfl, Option.bind_some, if_pos hb]
/-! fault -/
theorem x_fault {P : xH} (h : KS P) (n : Nat) : f_X10_fault (n + 1) 0 [.ref 0] P = some (.inl (some (.int (gX P 1 3))), P) := by
  show b_X10_fault_0 n (f_X10_fault n) 0 P = _
  unfold b_X10_fault_0
  rw [h.reader, Option.bind_some, rI_sp (h.at 1) rfl, Option.bind_some]
theorem m_fault {P : xH} (h : KS P) (n : Nat) : f_X11_fault (n + 1) 0 [.ref 136] P = some (.inl (some (.int (gX P 136 14))), wX P 136 0 0) := by
  show b_X11_fault_0 n (f_X11_fault n) 136 P = _
  unfold b_X11_fault_0
  have h1 := h.wX (x := 0) (h.at 136) (k := 0) rfl
  rw [wV_sp (h.at 136) rfl, Option.bind_some, rI_sp (h1.at 136) rfl, Option.bind_some, gX_wX (h.at 136) rfl]
  rfl
/-- whatever else the invariant says: fault answers alike where the places of the fault are alike -/
theorem o_fault {P : xH} {I : xH → Prop} (h : KS P) (e : gX P 1 3 = gX P 136 14) (hI : I (wX P 136 0 0)) : oA 0 136 f_X10_fault f_X11_fault [] P I := by
  refine ⟨gX P 1 3, P, wX P 136 0 0, Ev.of 1 (x_fault h), kO_sp (h.at 136), Ev.of 1 ?_, hI⟩
  intro n
  rw [e]
  exact m_fault h n
/-! end -/
theorem x_end {P : xH} (h : KS P) (x : Int32) (n : Nat) : f_X10_end (n + 1) 0 [.ref 0, .int x] P = if 0 ≤ x ∧ x ≤ gX P 1 2 then some (.inl (some (.int 1)), wX P 1 2 x) else some (.inl (some (.int 0)), P) := by
  show b_X10_end_0 n (f_X10_end n) 0 x P = _
  unfold b_X10_end_0
  by_cases h1 : x < 0
  · rw [if_pos h1, if_neg (fun q => Int32.not_le.mpr h1 q.1)]
  · rw [if_neg h1, h.reader, Option.bind_some, rI_sp (h.at 1) rfl, Option.bind_some]
    by_cases h2 : x ≤ gX P 1 2
    · rw [if_pos h2, if_pos ⟨Int32.not_lt.mp h1, h2⟩, Option.bind_some, wV_sp (h.at 1) rfl, Option.bind_some]
    · rw [if_neg h2, if_neg (fun q => h2 q.2)]
theorem m_end {P : xH} (h : KS P) (x : Int32) (n : Nat) : f_X11_end (n + 1) 0 [.ref 136, .int x] P = if 0 ≤ x ∧ x ≤ gX P 136 9 then some (.inl (some (.int 1)), wX (wX P 136 0 0) 136 9 x) else some (.inl (some (.int 0)), wX P 136 0 0) := by
  show b_X11_end_0 n (f_X11_end n) 136 x P = _
  unfold b_X11_end_0
  have h1 := h.wX (x := 0) (h.at 136) (k := 0) rfl
  have e : gX (wX P 136 0 0) 136 9 = gX P 136 9 := by
    rw [gX_wX (h.at 136) rfl]
    rfl
  rw [wV_sp (h.at 136) rfl, Option.bind_some]
  by_cases h2 : x < 0
  · rw [if_pos h2, if_neg (fun q => Int32.not_le.mpr h2 q.1)]
  · rw [if_neg h2, rI_sp (h1.at 136) rfl, Option.bind_some, e]
    by_cases h3 : x ≤ gX P 136 9
    · rw [if_pos h3, if_pos ⟨Int32.not_lt.mp h2, h3⟩, wV_sp (h1.at 136) rfl, Option.bind_some]
    · rw [if_neg h3, if_neg (fun q => h3 q.2)]
theorem o_end {P : xH} {I : xH → Prop} (h : KS P) (x : Int32) (e : gX P 1 2 = gX P 136 9) (hI : I (if 0 ≤ x ∧ x ≤ gX P 1 2 then wX (wX (wX P 1 2 x) 136 0 0) 136 9 x else wX P 136 0 0)) : oA 0 136 f_X10_end f_X11_end [.int x] P I := by
  by_cases c : 0 ≤ x ∧ x ≤ gX P 1 2
  · rw [if_pos c] at hI
    have h1 := h.wX (x := x) (h.at 1) (k := 2) rfl
    have e2 : gX (wX P 1 2 x) 136 9 = gX P 136 9 := by
      rw [gX_wX (h.at 1) rfl]
      rfl
    refine ⟨1, _, _, Ev.of 1 (fun n => (x_end h x n).trans (if_pos c)), kO_sp (h1.at 136), Ev.of 1 (fun n => (m_end h1 x n).trans (if_pos ?_)), hI⟩
    rw [e2, ← e]
    exact c
  · rw [if_neg c] at hI
    refine ⟨0, _, _, Ev.of 1 (fun n => (x_end h x n).trans (if_neg c)), kO_sp (h.at 136), Ev.of 1 (fun n => (m_end h x n).trans (if_neg ?_)), hI⟩
    rw [← e]
    exact c
