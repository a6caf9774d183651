/-! the relation of nets over rows that are alike within their lengths -/
theorem Rnet.cgr {N N' : Nat → Int → Int} {D D' : Nat → Int → Int64} {told : Int} {w w' v v' : Int → Int} (h : Rnet N D told w v) (hw : w 0 ≤ 10) (ea : ∀ i : Int, 2 ≤ i → i ≤ 4 → N' 0 i = N 0 i) (e1 : ∀ (o : Nat) (i : Int), 0 ≤ i → ((2 ≤ o ∧ o ≤ 9 ∧ i < 10) ∨ (11 ≤ o ∧ o ≤ 14 ∧ i < 300) ∨ (o = 16 ∧ i < 10) ∨ (17 ≤ o ∧ o ≤ 19 ∧ i < 30)) → N' o i = N o i) (e2 : ∀ (o : Nat) (i : Int), 0 ≤ i → ((o = 15 ∧ i < 300) ∨ (o = 20 ∧ i < 30)) → D' o i = D o i) (e3 : w' 0 = w 0) (e4 : w 1 ≤ w' 1) (e5 : ∀ i, 11 ≤ i → i < 41 → w' i = w i) (e6 : ∀ i, 0 ≤ i → i < 2301 → v' i = v i) (ht : told ≤ 30) : Rnet N' D' told w' v' := by
  obtain ⟨h1, h2, h3, h4, h5, h6⟩ := h
  have e0 := e6 0 (by omega) (by omega)
  refine ⟨?_, fun p p0 p1 => ?_, fun p p0 p1 => ?_, fun p x p0 p1 x0 x1 => ?_, fun x x0 x1 => ?_, fun x x0 x1 => ?_⟩
  · rw [ea 2 (by omega) (by omega), ea 3 (by omega) (by omega), ea 4 (by omega) (by omega), e0, e3]
    exact ⟨h1.1, h1.2.1, h1.2.2.1, h1.2.2.2.1, h1.2.2.2.2.1, h1.2.2.2.2.2.1, by omega⟩
  · rw [e1 2 p p0 (by omega), e1 3 p p0 (by omega), e1 5 p p0 (by omega), e1 6 p p0 (by omega), e1 7 p p0 (by omega), e1 8 p p0 (by omega), e1 9 p p0 (by omega), e6 _ (by omega) (by omega), e6 _ (by omega) (by omega), e6 _ (by omega) (by omega), e6 _ (by omega) (by omega), e6 _ (by omega) (by omega), e5 _ (by omega) (by omega), e5 _ (by omega) (by omega)]
    exact h2 p p0 (by omega)
  · rw [e1 4 p p0 (by omega), e1 16 p p0 (by omega), e1 7 p p0 (by omega), e1 8 p p0 (by omega), e1 9 p p0 (by omega), e3, cntw_congr p p0 p1 (fun i a b => e6 i (by omega) (by omega)) 30 (by omega)]
    exact h3 p p0 p1
  · rw [e1 16 p p0 (by omega), e1 11 _ (by omega) (by omega), e1 12 _ (by omega) (by omega), e1 13 _ (by omega) (by omega), e1 14 _ (by omega) (by omega), e2 15 _ (by omega) (by omega), e3, e6 _ (by omega) (by omega), e6 _ (by omega) (by omega), e6 _ (by omega) (by omega), e6 _ (by omega) (by omega), e6 _ (by omega) (by omega), e6 _ (by omega) (by omega), e6 _ (by omega) (by omega)]
    exact h4 p x p0 p1 x0 x1
  · rw [e1 17 x x0 (by omega), e1 18 x x0 (by omega), e1 19 x x0 (by omega), cntp_congr x x0 x1 (fun i a b => e6 i (by omega) (by omega)) 10 (by omega)]
    exact h5 x x0 x1
  · rw [e1 18 x x0 (by omega), e1 19 x x0 (by omega), e2 20 x x0 (by omega), e3, e0, e6 _ (by omega) (by omega), e6 _ (by omega) (by omega), e6 _ (by omega) (by omega), e6 _ (by omega) (by omega)]
    exact h6 x x0 x1
/-- what a net has become stands in the relation of the other -/
theorem Rnet.become {m : Nat → Int → Int} {q : Nat → Int → Int64} {a b : Nat} {told : Int} {w v : Int → Int} (h : Rnet (fun o => m (b + o)) (fun o => q (b + o)) told w v) (hd : a + 22 ≤ b ∨ b + 22 ≤ a) (hw : w 0 ≤ 10) (ht : told ≤ 30) : Rnet (fun o => nbM m a b (a + o)) (fun o => nbQ q a b (a + o)) told w v :=
  h.cgr hw (fun i i0 i1 => nbM_obj i0 i1) (fun o i i0 hh => nbM_row hd i0 hh) (fun o i i0 hh => nbQ_row hd i0 hh) rfl (Int.le_refl _) (fun _ _ _ => rfl) (fun _ _ _ => rfl) ht
