/-! the parts of a town over rows that are alike within their lengths -/
theorem Rprt.cg {s s' : Int} {a b c a' b' c' w w' : Int → Int} (h : Rprt s a b c w) (es : s' = s) (ea : ∀ k, 0 ≤ k → k < 7 → a' k = a k) (eb : ∀ k, 0 ≤ k → k < 7 → b' k = b k) (ec : ∀ k, 0 ≤ k → k < 7 → c' k = c k) (e8 : w' 8 = w 8) (e : ∀ i, 1061 ≤ i → i < 1082 → w' i = w i) : Rprt s' a' b' c' w' := by
  obtain ⟨h1, h2, h3, h4⟩ := h
  refine ⟨by omega, by omega, by omega, fun k k0 k1 => ?_⟩
  rw [ea k k0 (by omega), eb k k0 (by omega), ec k k0 (by omega), e _ (by omega) (by omega), e _ (by omega) (by omega), e _ (by omega) (by omega)]
  exact h4 k k0 (by omega)
theorem Rsto.cg {n n' : Int} {a b c d f g a' b' c' d' f' g' w w' : Int → Int} (h : Rsto n a b c d f g w) (en : n' = n) (ea : ∀ k, 0 ≤ k → k < 5 → a' k = a k) (eb : ∀ k, 0 ≤ k → k < 5 → b' k = b k) (ec : ∀ k, 0 ≤ k → k < 5 → c' k = c k) (ed : ∀ k, 0 ≤ k → k < 5 → d' k = d k) (ef : ∀ k, 0 ≤ k → k < 5 → f' k = f k) (eg : ∀ k, 0 ≤ k → k < 5 → g' k = g k) (e8 : w' 9 = w 9) (e : ∀ i, 1082 ≤ i → i < 1112 → w' i = w i) : Rsto n' a' b' c' d' f' g' w' := by
  obtain ⟨h1, h2, h3, h4⟩ := h
  refine ⟨by omega, by omega, by omega, fun k k0 k1 => ?_⟩
  rw [ea k k0 (by omega), eb k k0 (by omega), ec k k0 (by omega), ed k k0 (by omega), ef k k0 (by omega), eg k k0 (by omega), e _ (by omega) (by omega), e _ (by omega) (by omega), e _ (by omega) (by omega), e _ (by omega) (by omega), e _ (by omega) (by omega), e _ (by omega) (by omega)]
  exact h4 k k0 (by omega)
theorem Rgan.cg {n n' : Int} {a b a' b' w w' : Int → Int} (h : Rgan n a b w) (en : n' = n) (ea : ∀ k, 0 ≤ k → k < 4 → a' k = a k) (eb : ∀ k, 0 ≤ k → k < 4 → b' k = b k) (e8 : w' 10 = w 10) (e : ∀ i, 1112 ≤ i → i < 1120 → w' i = w i) : Rgan n' a' b' w' := by
  obtain ⟨h1, h2, h3, h4⟩ := h
  refine ⟨by omega, by omega, by omega, fun k k0 k1 => ?_⟩
  rw [ea k k0 (by omega), eb k k0 (by omega), e _ (by omega) (by omega), e _ (by omega) (by omega)]
  exact h4 k k0 (by omega)
theorem Rrow.cg {s s' : Int} {a b a' b' w v w' v' : Int → Int} (h : Rrow s a b w v) (es : s' = s) (ea : ∀ k, 0 ≤ k → k < 8 → a' k = a k) (eb : ∀ k, 0 ≤ k → k < 8 → b' k = b k) (e : ∀ i, 1136 ≤ i → i < 1938 → w' i = w i) (ev : v' 0 = v 0) (hv : v 0 ≤ 400) : Rrow s' a' b' w' v' := by
  obtain ⟨h1, h2⟩ := h
  refine ⟨by omega, fun i i0 i1 => ?_⟩
  rw [ev] at i1 ⊢
  rw [ea i i0 (by omega), eb i i0 (by omega), e _ (by omega) (by omega), e _ (by omega) (by omega)]
  exact h2 i i0 i1
theorem Rwlk.cg {n n' : Int → Int} {A B C A' B' C' : Int → Int → Int} {w w' : Int → Int} (h : Rwlk n A B C w) (en : ∀ l, 0 ≤ l → l < 4 → n' l = n l) (eA : ∀ l k : Int, 0 ≤ l → l < 4 → 0 ≤ k → k < 60 → A' l k = A l k) (eB : ∀ l k : Int, 0 ≤ l → l < 4 → 0 ≤ k → k < 60 → B' l k = B l k) (eC : ∀ l k : Int, 0 ≤ l → l < 4 → 0 ≤ k → k < 60 → C' l k = C l k) (e0 : w' 0 = w 0) (e1 : ∀ i, 2 ≤ i → i < 6 → w' i = w i) (e : ∀ i, 41 ≤ i → i < 761 → w' i = w i) : Rwlk n' A' B' C' w' := by
  intro l l0 l1
  obtain ⟨a1, a2, a3, a4⟩ := h l l0 l1
  have e2 := e1 (2 + l) (by omega) (by omega)
  have e3 := en l l0 l1
  refine ⟨by omega, by omega, by omega, fun k k0 k1 => ?_⟩
  rw [eA l k l0 l1 k0 (by omega), eB l k l0 l1 k0 (by omega), eC l k l0 l1 k0 (by omega), e _ (by omega) (by omega), e _ (by omega) (by omega), e _ (by omega) (by omega), e0]
  exact a4 k k0 (by omega)
theorem Rwrd.cg {n n' : Int} {F F' : Int → Int → Int} {u u' w v w' v' : Int → Int} (h : Rwrd n F u w v) (en : n' = n) (eF : ∀ k x : Int, 0 ≤ k → k < 10 → 0 ≤ x → x < 30 → F' k x = F k x) (eu : ∀ x, 0 ≤ x → x < 30 → u' x = u x) (e0 : w' 0 = w 0) (e1 : w' 1 = w 1) (e : ∀ i, 761 ≤ i → i < 1061 → w' i = w i) (ev : v 0 ≤ v' 0) : Rwrd n' F' u' w' v' := by
  obtain ⟨h1, h2, h3, h4, h5, h6, h7, h8⟩ := h.w (u' := u) eF rfl e0 e1 e ev
  refine ⟨by omega, h2, h3, h4, h5, h6, h7, fun x x0 x1 => ?_⟩
  rw [eu x x0 x1]
  exact h8 x x0 x1
theorem Rrul.cg {l s l' s' : Int} {a b c d a' b' c' d' g g' : Int → Int} (h : Rrul l s a b c d g) (el : l' = l) (es : s' = s) (ea : ∀ k, 0 ≤ k → k < 10 → a' k = a k) (eb : ∀ k, 0 ≤ k → k < 10 → b' k = b k) (ec : ∀ k, 0 ≤ k → k < 11 → c' k = c k) (ed : ∀ k, 0 ≤ k → k < 200 → d' k = d k) (e : ∀ i, 0 ≤ i → i < 841 → g' i = g i) : Rrul l' s' a' b' c' d' g' := by
  obtain ⟨h1, h2, h3, h4, h5, h6, h7⟩ := h.w e
  refine ⟨by omega, h2, h3, by omega, by omega, fun n n0 n1 => ?_, fun i i0 i1 => ?_⟩
  · rw [ea n n0 (by omega), eb n n0 (by omega), ec n n0 (by omega), ec (n + 1) (by omega) (by omega), es]
    exact h6 n n0 n1
  · rw [ed i i0 (by omega)]
    exact h7 i i0 (by omega)
theorem Rdwn.cg {N N' : Nat → Int → Int} {D D' : Nat → Int → Int64} {w w' v v' : Int → Int} (h : Rdwn N D w v) (hw : w 0 ≤ 10) (hw1 : w 1 ≤ 30) (ea : ∀ i : Int, 2 ≤ i → i ≤ 4 → N' 0 i = N 0 i) (e1 : ∀ (o : Nat) (i : Int), 0 ≤ i → ((2 ≤ o ∧ o ≤ 9 ∧ i < 10) ∨ (11 ≤ o ∧ o ≤ 14 ∧ i < 300) ∨ (o = 16 ∧ i < 10) ∨ (17 ≤ o ∧ o ≤ 19 ∧ i < 30)) → N' o i = N o i) (e2 : ∀ (o : Nat) (i : Int), 0 ≤ i → ((o = 15 ∧ i < 300) ∨ (o = 20 ∧ i < 30)) → D' o i = D o i) (e3 : w' 0 = w 0) (e4 : w' 1 = w 1) (e5 : ∀ i, 11 ≤ i → i < 41 → w' i = w i) (e6 : ∀ x : Int, 0 ≤ x → x < 30 → w' (761 + 10 * x + 2) = w (761 + 10 * x + 2)) (e7 : ∀ i, 1938 ≤ i → i < 4239 → w' i = w i) (e8 : v' 0 = v 0) : Rdwn N' D' w' v' := by
  intro hv
  obtain ⟨a1, a2, told, a3, a4⟩ := h (by omega)
  have b1 := a3.1.2.2.2.2.2.2
  refine ⟨(e7 _ (by omega) (by omega)).trans a1, fun p p0 p1 => ?_, told, a3.cgr hw ea e1 e2 e3 (by omega) e5 (fun i i0 i1 => e7 _ (by omega) (by omega)) (by omega), fun x x0 x1 => ?_⟩
  · rw [e7 _ (by omega) (by omega), e5 _ (by omega) (by omega)]
    exact a2 p p0 (by omega)
  · rw [e6 x (by omega) (by omega)]
    exact a4 x x0 (by omega)
theorem rV_hp {S : xH} {m : Nat → Int → Int} {q : Nat → Int → Int64} {o ci k : Nat} {fs : List Value} {v : Value} (h : S.2.2 o = .inr (ci, fs)) (hk : fs[k]? = some v) (hv : ∀ x, fil1 x v = v) : rV (hp S m q) o ci k = some v := by
  unfold rV
  rw [hp_cell, h]
  show (if ci = ci then (fillv (m o) 0 fs)[k]? else none) = _
  rw [if_pos rfl, fillv_get, hk, Option.map_some, hv]
