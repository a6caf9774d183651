/-! throws at the pure level; speed -/
def RmOk (P : xH) : Prop := 153 ≤ P.1 ∧ P.1 + 1 ≤ 601024 ∧ P.2.1 + 6 ≤ 7293034
/-- the heap behind a throw of the class number k in xEx -/
def xth (P : xH) (k : Nat) : xH := xnew P 6 (.inr (20 + k, []))
theorem tE_ok {P : xH} (h : RmOk P) (k : Nat) : tE P k = some (.inr P.1, xth P k) := if_pos ⟨h.2.1, h.2.2⟩
theorem xth_ne (P : xH) (k : Nat) {j : Nat} (h : j ≠ P.1) : (xth P k).2.2 j = P.2.2 j := xnew_ne _ _ _ h
theorem xcat_th (P : xH) {k : Nat} (h : k < 5) : xcat (xth P k) P.1 = some k := by
  have e : (xth P k).2.2 P.1 = .inr (20 + k, []) := xnew_at _ _ _
  unfold xcat
  rw [e]
  simp only
  rw [if_pos (by omega), Nat.add_sub_cancel_left]
theorem Sp_th (P : xH) (k : Nat) {j : Nat} (h : j ≠ P.1) : Sp (xth P k) j = Sp P j := by
  unfold Sp
  rw [xth_ne P k h]
theorem gX_th (P : xH) (k : Nat) {o : Nat} (h : o ≠ P.1) (i : Nat) : gX (xth P k) o i = gX P o i := by
  unfold gX
  rw [xth_ne P k h]
theorem gI_th (P : xH) (k : Nat) {a : Nat} (h : a ≠ P.1) (i : Nat) : gI (xth P k) a i = gI P a i := by
  unfold gI
  rw [xth_ne P k h]
theorem gJ_th (P : xH) (k : Nat) {a : Nat} (h : a ≠ P.1) (i : Nat) : gJ (xth P k) a i = gJ P a i := by
  unfold gJ
  rw [xth_ne P k h]
theorem KS.th {P : xH} (h : KS P) (r : RmOk P) (k : Nat) : KS (xth P k) := by
  have r1 := r.1
  refine ⟨fun j a b d => (Sp_th P k (by omega)).trans (h.1 j a b d), ?_⟩
  obtain ⟨-, v, hv, h0⟩ := h
  exact ⟨v, hv, (Sp_th P k (by omega)).trans h0⟩
theorem RmOk.wX {P : xH} (h : RmOk P) (o k : Nat) (x : Int32) : RmOk (wX P o k x) := h
theorem RmOk.wI {P : xH} (h : RmOk P) (a i : Nat) (x : Int32) : RmOk (wI P a i x) := h
theorem KS.self {P : xH} (h : KS P) : kO P 0 10 = some () := by
  obtain ⟨-, v, -, hs⟩ := h
  exact kO_sp hs
/-- the class's own tests -/
theorem x_needWithin {P : xH} (r : RmOk P) (x lo hi : Int32) (n : Nat) : f_X10_needWithin (n + 2) 0 [.int x, .int lo, .int hi] P = if lo ≤ x ∧ x ≤ hi then some (.inl none, P) else some (.inr P.1, xth P 1) := by
  have e : f_X10_needWithin (n + 1) 10 [.int x, .int lo, .int hi] P = some (.inr P.1, xth P 1) := tE_ok r 1
  show b_X10_needWithin_0 (n + 1) (f_X10_needWithin (n + 1)) x lo hi P = _
  unfold b_X10_needWithin_0
  by_cases h1 : x < lo
  · rw [if_pos h1, if_neg (fun q => Int32.not_le.mpr h1 q.1)]
    exact e
  · rw [if_neg h1]
    by_cases h2 : x ≤ hi
    · rw [if_pos h2, if_pos ⟨Int32.not_lt.mp h1, h2⟩]
    · rw [if_neg h2, if_neg (fun q => h2 q.2)]
      exact e
/-! speed -/
theorem x_speed {P : xH} (h : KS P) (r : RmOk P) (x : Int32) (n : Nat) : f_X10_speed (n + 3) 0 [.ref 0, .int x] P = if 1 ≤ x ∧ x ≤ 8 then some (.inl none, wX P 9 8 x) else some (.inr P.1, xth P 1) := by
  show b_X10_speed_0 (n + 2) (f_X10_speed (n + 2)) 0 x P = _
  unfold b_X10_speed_0
  rw [x_needWithin r]
  by_cases c : 1 ≤ x ∧ x ≤ 8
  · rw [if_pos c, if_pos c, Option.bind_some]
    simp only [xUt]
    rw [h.town, Option.bind_some, wV_sp (h.at 9) rfl, Option.bind_some]
  · rw [if_neg c, if_neg c, Option.bind_some]
    simp only [xUt]
theorem l_speed_f {P : xH} (h : KS P) (r : RmOk P) (x : Int32) (n : Nat) : f_L_speed (n + 4) 0 [.ref 0, .int x] P = if 1 ≤ x ∧ x ≤ 8 then some (.inl (some (.int 0)), wX P 9 8 x) else some (.inl (some (.int 1)), xth P 1) := by
  show b_L_speed_0 (n + 3) (f_L_speed (n + 3)) 0 x P = _
  unfold b_L_speed_0
  rw [h.self, Option.bind_some, x_speed h r]
  by_cases c : 1 ≤ x ∧ x ≤ 8
  · rw [if_pos c, if_pos c, Option.bind_some]
    simp only [xUh]
  · rw [if_neg c, if_neg c, Option.bind_some]
    simp only [xUh]
    rw [xcat_th P (by decide), Option.bind_some, if_pos rfl]
theorem m_speed {P : xH} (h : KS P) (x : Int32) (n : Nat) : f_X11_speed (n + 3) 0 [.ref 136, .int x] P = if 1 ≤ x ∧ x ≤ 8 then some (.inl none, wI (wX P 136 0 0) 139 6 x) else some (.inl none, wX (wX P 136 0 0) 136 0 1) := by
  have h1 := h.wX (x := 0) (h.at 136) (k := 0) rfl
  show b_X11_speed_0 (n + 2) (f_X11_speed (n + 2)) 136 x P = _
  unfold b_X11_speed_0
  rw [wV_sp (h.at 136) rfl, Option.bind_some, m_in, Option.bind_some]
  simp only [xI]
  by_cases c : 1 ≤ x ∧ x ≤ 8
  · rw [if_pos c, if_pos c, if_pos (by decide)]
    show b_X11_speed_21 (n + 1) (f_X11_speed (n + 1)) 136 x 136 0 (wX P 136 0 0) = _
    unfold b_X11_speed_21
    rw [kO_sp (h1.at 136), Option.bind_some, m_throwsIf h1 (Or.inl rfl), Option.bind_some]
    simp only [xI]
    simp only [if_true]
    rw [rA_sp (h1.at 136) rfl, Option.bind_some, sI_sp (h1.at 139) (by decide) (by decide), Option.bind_some]
    rfl
  · rw [if_neg c, if_neg c, if_neg (by decide)]
    show b_X11_speed_21 (n + 1) (f_X11_speed (n + 1)) 136 x 136 1 (wX P 136 0 0) = _
    unfold b_X11_speed_21
    rw [kO_sp (h1.at 136), Option.bind_some, m_throwsIf h1 (Or.inr rfl), Option.bind_some]
    simp only [xI]
    rw [if_neg (by decide), if_neg (by decide)]
/-- speed answers alike, whatever the state -/
theorem o_speed {P : xH} {I : xH → Prop} (h : KS P) (r : RmOk P) (x : Int32) (hI : I (if 1 ≤ x ∧ x ≤ 8 then wI (wX (wX P 9 8 x) 136 0 0) 139 6 x else wX (wX (xth P 1) 136 0 0) 136 0 1)) : oC 0 136 f_L_speed f_X11_speed [.int x] P I := by
  by_cases c : 1 ≤ x ∧ x ≤ 8
  · rw [if_pos c] at hI
    have h1 := h.wX (x := x) (h.at 9) (k := 8) rfl
    have h2 := h1.wX (x := 0) (h1.at 136) (k := 0) rfl
    have h3 := h2.wI 139 6 x
    refine ⟨0, _, _, Ev.of 4 (fun n => (l_speed_f h r x n).trans (if_pos c)), kO_sp (h1.at 136), Ev.of 3 (fun n => (m_speed h1 x n).trans (if_pos c)), kO_sp (h3.at 136), Ev.of 1 (fun n => ?_), hI⟩
    have e : gX (wI (wX (wX P 9 8 x) 136 0 0) 139 6 x) 136 0 = 0 := by
      rw [gX_wI, gX_wX (h1.at 136) rfl]
      rfl
    rw [m_thrown h3, e]
  · rw [if_neg c] at hI
    have h1 := h.th r 1
    have h2 := h1.wX (x := 0) (h1.at 136) (k := 0) rfl
    have h3 := h2.wX (x := 1) (h2.at 136) (k := 0) rfl
    refine ⟨1, _, _, Ev.of 4 (fun n => (l_speed_f h r x n).trans (if_neg c)), kO_sp (h1.at 136), Ev.of 3 (fun n => (m_speed h1 x n).trans (if_neg c)), kO_sp (h3.at 136), Ev.of 1 (fun n => ?_), hI⟩
    have e : gX (wX (wX (xth P 1) 136 0 0) 136 0 1) 136 0 = 1 := by
      rw [gX_wX (h2.at 136) rfl]
      rfl
    rw [m_thrown h3, e]
