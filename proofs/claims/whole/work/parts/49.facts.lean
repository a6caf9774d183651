/-! what holds between two calls, in the live town's own numbers -/
theorem orI_T {x a b : Int} (h : x < a ∨ b < x) : (x < a ∨ b < x) = True := eq_true h
theorem orI_F {x a b : Int} (h : a ≤ x ∧ x ≤ b) : (x < a ∨ b < x) = False := eq_false (by omega)
theorem J10 : (J 1 = J 0) = False := eq_false (by decide)
theorem J01 : (J 0 = J 1) = False := eq_false (by decide)
section FACTS
variable {S : xH} {m : Nat → Int → Int} {q : Nat → Int → Int64}
theorem InvM.word (h : InvM S m q) (x : Int) (x0 : 0 ≤ x) (x1 : x < m 139 1) : (m 18 x = m 139 (761 + 10 * x + 0) ∧ m 19 x = m 139 (761 + 10 * x + 1) ∧ m 20 x = m 139 (761 + 10 * x + 2) ∧ m 21 x = m 139 (761 + 10 * x + 3) ∧ m 22 x = m 139 (761 + 10 * x + 4) ∧ m 23 x = m 139 (761 + 10 * x + 5) ∧ m 24 x = m 139 (761 + 10 * x + 6) ∧ m 25 x = m 139 (761 + 10 * x + 7) ∧ m 26 x = m 139 (761 + 10 * x + 8) ∧ m 28 x = m 139 (761 + 10 * x + 9)) ∧
  ((0 ≤ m 18 x ∧ m 18 x ≤ 5 ∧ 0 ≤ m 19 x ∧ m 19 x < m 139 0 ∧ 0 ≤ m 20 x ∧ m 20 x ≤ m 137 0 ∧ 1 ≤ m 21 x ∧ m 21 x ≤ 200 ∧ 0 ≤ m 22 x ∧ m 22 x ≤ 15 ∧ 0 ≤ m 23 x ∧ m 23 x ≤ 15) ∧ (-2147483648 ≤ m 24 x ∧ m 24 x < 2147483648 ∧ (m 18 x ≤ 1 → 0 ≤ m 24 x ∧ m 24 x ≤ 400)) ∧ (0 ≤ m 25 x ∧ m 25 x ≤ 9999 ∧ -1 ≤ m 26 x ∧ m 26 x < x ∧ 0 ≤ m 28 x ∧ m 28 x ≤ 2)) := by
  obtain ⟨tap, by0, lot0, ⟨par, hid, prt, sto, gan, wrd, wlk, row, rul, tol, plc, net, dwn⟩, kep⟩ := h.get
  obtain ⟨-, -, -, f, g, -⟩ := wrd
  exact ⟨⟨f x 0 x0 x1 (by omega) (by omega), f x 1 x0 x1 (by omega) (by omega), f x 2 x0 x1 (by omega) (by omega), f x 3 x0 x1 (by omega) (by omega), f x 4 x0 x1 (by omega) (by omega), f x 5 x0 x1 (by omega) (by omega), f x 6 x0 x1 (by omega) (by omega), f x 7 x0 x1 (by omega) (by omega), f x 8 x0 x1 (by omega) (by omega), f x 9 x0 x1 (by omega) (by omega)⟩, g x x0 x1⟩
theorem InvM.has (h : InvM S m q) (p x : Int) (p0 : 0 ≤ p) (p1 : p < 10) (x0 : 0 ≤ x) (x1 : x < 30) : (0 ≤ m 137 (51 + 7 * (30 * p + x) + 0) ∧ m 137 (51 + 7 * (30 * p + x) + 0) ≤ 1) ∧ (m 137 (51 + 7 * (30 * p + x) + 0) = 1 → p < m 139 0 ∧ x < m 139 1) := by
  obtain ⟨tap, by0, lot0, ⟨par, hid, prt, sto, gan, wrd, wlk, row, rul, tol, plc, net, dwn⟩, kep⟩ := h.get
  obtain ⟨a, b⟩ := net.2.2.2.1 p x p0 p1 x0 x1
  refine ⟨?_, fun c => (b c).1⟩
  rw [a]
  split <;> omega
theorem InvM.phone (h : InvM S m q) (p : Int) (p0 : 0 ≤ p) (p1 : p < m 139 0) : (m 48 p = m 137 (1 + 5 * p + 0) ∧ m 49 p = m 137 (1 + 5 * p + 1) ∧ m 50 p = cntw (m 137) p (m 139 1).toNat ∧ m 51 p = m 139 (11 + 3 * p + 1) ∧ m 52 p = m 139 (11 + 3 * p + 2) ∧ m 53 p = m 137 (1 + 5 * p + 2) ∧ m 54 p = m 137 (1 + 5 * p + 3) ∧ m 55 p = m 137 (1 + 5 * p + 4)) ∧ (0 ≤ m 48 p ∧ m 48 p ≤ 15 ∧ 0 ≤ m 49 p ∧ m 49 p ≤ 1000) ∧ (0 ≤ m 139 (11 + 3 * p + 0) ∧ m 139 (11 + 3 * p + 0) ≤ 15 ∧ 1 ≤ m 139 (11 + 3 * p + 1) ∧ m 139 (11 + 3 * p + 1) ≤ 12 ∧ 0 ≤ m 139 (11 + 3 * p + 2) ∧ m 139 (11 + 3 * p + 2) ≤ 9) := by
  have sm := h.small
  have hh := h.has
  obtain ⟨tap, by0, lot0, ⟨par, hid, prt, sto, gan, wrd, wlk, row, rul, tol, plc, net, dwn⟩, kep⟩ := h.get
  obtain ⟨⟨a1, a2, a3, a4, a5, a6, a7⟩, b⟩ := net.2.1 p p0 p1
  obtain ⟨c, -⟩ := net.2.2.1 p p0 (by omega)
  refine ⟨⟨a1, a2, ?_, a3, a4, a5, a6, a7⟩, b, tol.2.2 p p0 p1⟩
  refine Eq.trans c ?_
  have e := cntw_stop (v := m 137) (p := p) (m 139 1).toNat (30 - (m 139 1).toNat) (fun w w0 w1 z => by
    have := (hh p w p0 (by omega) (by omega) (by omega)).2 z
    omega)
  rwa [show (m 139 1).toNat + (30 - (m 139 1).toNat) = 30 by omega] at e
theorem InvM.spread (h : InvM S m q) (x : Int) (x0 : 0 ≤ x) (x1 : x < 30) : m 63 x = cntp (m 137) x (m 139 0).toNat := by
  have sm := h.small
  have hh := h.has
  obtain ⟨tap, by0, lot0, ⟨par, hid, prt, sto, gan, wrd, wlk, row, rul, tol, plc, net, dwn⟩, kep⟩ := h.get
  obtain ⟨c, -⟩ := net.2.2.2.2.1 x x0 x1
  refine Eq.trans c ?_
  have e := cntp_stop (v := m 137) (x := x) (m 139 0).toNat (10 - (m 139 0).toNat) (fun p p0 p1 z => by
    have := (hh p x (by omega) (by omega) x0 x1).2 z
    omega)
  rwa [show (m 139 0).toNat + (10 - (m 139 0).toNat) = 10 by omega] at e
theorem InvM.hops0 (h : InvM S m q) (x : Int) (x0 : 0 ≤ x) (x1 : x < 30) (hh : m 64 x = -1) : m 65 x = 0 := by
  obtain ⟨tap, by0, lot0, ⟨par, hid, prt, sto, gan, wrd, wlk, row, rul, tol, plc, net, dwn⟩, kep⟩ := h.get
  exact (net.2.2.2.2.1 x x0 x1).2.2 hh
theorem InvM.had (h : InvM S m q) (x : Int) (x0 : 0 ≤ x) (x1 : x < m 139 1) : m 64 x = m 137 (2151 + 5 * x + 0) ∧ -1 ≤ m 64 x ∧ m 64 x ≤ m 137 0 ∧ (0 ≤ m 64 x → m 65 x = m 137 (2151 + 5 * x + 4) ∧ Rpth (q 66 x) (m 137 (2151 + 5 * x + 2)) (m 137 (2151 + 5 * x + 3)) (m 65 x) (m 139 0)) := by
  obtain ⟨tap, by0, lot0, ⟨par, hid, prt, sto, gan, wrd, wlk, row, rul, tol, plc, net, dwn⟩, kep⟩ := h.get
  exact net.2.2.2.2.2 x x0 x1
end FACTS
