/-! apart -/
theorem x_apart {P : xH} (h : KS P) (r : RmOk P) (x : Int32) (n : Nat) : f_X10_apart (n + 3) 0 [.ref 0, .int x] P = if 0 ≤ x ∧ x ≤ 1000 then some (.inl none, wX P 93 6 x) else some (.inr P.1, xth P 1) := by
  show b_X10_apart_0 (n + 2) (f_X10_apart (n + 2)) 0 x P = _
  unfold b_X10_apart_0
  rw [x_needWithin r]
  by_cases c : 0 ≤ x ∧ x ≤ 1000
  · rw [if_pos c, if_pos c, Option.bind_some]
    simp only [xUt]
    rw [h.town, Option.bind_some, rA_sp (h.at 9) rfl, Option.bind_some, wV_sp (h.at 93) rfl, Option.bind_some]
  · rw [if_neg c, if_neg c, Option.bind_some]
    simp only [xUt]
theorem l_apart_f {P : xH} (h : KS P) (r : RmOk P) (x : Int32) (n : Nat) : f_L_apart (n + 4) 0 [.ref 0, .int x] P = if 0 ≤ x ∧ x ≤ 1000 then some (.inl (some (.int 0)), wX P 93 6 x) else some (.inl (some (.int 1)), xth P 1) := by
  show b_L_apart_0 (n + 3) (f_L_apart (n + 3)) 0 x P = _
  unfold b_L_apart_0
  rw [h.self, Option.bind_some, x_apart h r]
  by_cases c : 0 ≤ x ∧ x ≤ 1000
  · rw [if_pos c, if_pos c, Option.bind_some]
    simp only [xUh]
  · rw [if_neg c, if_neg c, Option.bind_some]
    simp only [xUh]
    rw [xcat_th P (by decide), Option.bind_some, if_pos rfl]
theorem m_apart {P : xH} (h : KS P) (x : Int32) (n : Nat) : f_X11_apart (n + 3) 0 [.ref 136, .int x] P = if 0 ≤ x ∧ x ≤ 1000 then some (.inl none, wI (wX P 136 0 0) 139 7 x) else some (.inl none, wX (wX P 136 0 0) 136 0 1) := by
  have h1 := h.wX (x := 0) (h.at 136) (k := 0) rfl
  show b_X11_apart_0 (n + 2) (f_X11_apart (n + 2)) 136 x P = _
  unfold b_X11_apart_0
  rw [wV_sp (h.at 136) rfl, Option.bind_some, m_in, Option.bind_some]
  simp only [xI]
  by_cases c : 0 ≤ x ∧ x ≤ 1000
  · rw [if_pos c, if_pos c, if_pos (by decide)]
    show b_X11_apart_22 (n + 1) (f_X11_apart (n + 1)) 136 x 136 0 (wX P 136 0 0) = _
    unfold b_X11_apart_22
    rw [kO_sp (h1.at 136), Option.bind_some, m_throwsIf h1 (Or.inl rfl), Option.bind_some]
    simp only [xI]
    simp only [if_true]
    rw [rA_sp (h1.at 136) rfl, Option.bind_some, sI_sp (h1.at 139) (by decide) (by decide), Option.bind_some]
    rfl
  · rw [if_neg c, if_neg c, if_neg (by decide)]
    show b_X11_apart_22 (n + 1) (f_X11_apart (n + 1)) 136 x 136 1 (wX P 136 0 0) = _
    unfold b_X11_apart_22
    rw [kO_sp (h1.at 136), Option.bind_some, m_throwsIf h1 (Or.inr rfl), Option.bind_some]
    simp only [xI]
    rw [if_neg (by decide), if_neg (by decide)]
/-- apart answers alike, whatever the state -/
theorem o_apart {P : xH} {I : xH → Prop} (h : KS P) (r : RmOk P) (x : Int32) (hI : I (if 0 ≤ x ∧ x ≤ 1000 then wI (wX (wX P 93 6 x) 136 0 0) 139 7 x else wX (wX (xth P 1) 136 0 0) 136 0 1)) : oC 0 136 f_L_apart f_X11_apart [.int x] P I := by
  by_cases c : 0 ≤ x ∧ x ≤ 1000
  · rw [if_pos c] at hI
    have h1 := h.wX (x := x) (h.at 93) (k := 6) rfl
    have h2 := h1.wX (x := 0) (h1.at 136) (k := 0) rfl
    have h3 := h2.wI 139 7 x
    refine ⟨0, _, _, Ev.of 4 (fun n => (l_apart_f h r x n).trans (if_pos c)), kO_sp (h1.at 136), Ev.of 3 (fun n => (m_apart h1 x n).trans (if_pos c)), kO_sp (h3.at 136), Ev.of 1 (fun n => ?_), hI⟩
    have e : gX (wI (wX (wX P 93 6 x) 136 0 0) 139 7 x) 136 0 = 0 := by
      rw [gX_wI, gX_wX (h1.at 136) rfl]
      rfl
    rw [m_thrown h3, e]
  · rw [if_neg c] at hI
    have h1 := h.th r 1
    have h2 := h1.wX (x := 0) (h1.at 136) (k := 0) rfl
    have h3 := h2.wX (x := 1) (h2.at 136) (k := 0) rfl
    refine ⟨1, _, _, Ev.of 4 (fun n => (l_apart_f h r x n).trans (if_neg c)), kO_sp (h1.at 136), Ev.of 3 (fun n => (m_apart h1 x n).trans (if_neg c)), kO_sp (h3.at 136), Ev.of 1 (fun n => ?_), hI⟩
    have e : gX (wX (wX (xth P 1) 136 0 0) 136 0 1) 136 0 = 1 := by
      rw [gX_wX (h2.at 136) rfl]
      rfl
    rw [m_thrown h3, e]
