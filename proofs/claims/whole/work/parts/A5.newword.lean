/-! a new word beside the town -/
section NEWW
variable {S : xH} {m m1 m2 m3 m4 : Nat → Int → Int} {q q2 q4 : Nat → Int → Int64} {x : Int} {w' v' : Int → Int}
/-- the facts of the new word -/
def NwB (w' : Int → Int) (x ph t : Int) : Prop := (0 ≤ w' (761 + 10 * x + 0) ∧ w' (761 + 10 * x + 0) ≤ 5 ∧ 0 ≤ w' (761 + 10 * x + 1) ∧ w' (761 + 10 * x + 1) < ph ∧ w' (761 + 10 * x + 2) = t ∧ 1 ≤ w' (761 + 10 * x + 3) ∧ w' (761 + 10 * x + 3) ≤ 200 ∧ 0 ≤ w' (761 + 10 * x + 4) ∧ w' (761 + 10 * x + 4) ≤ 15 ∧ 0 ≤ w' (761 + 10 * x + 5) ∧ w' (761 + 10 * x + 5) ≤ 15) ∧ (-2147483648 ≤ w' (761 + 10 * x + 6) ∧ w' (761 + 10 * x + 6) < 2147483648 ∧ (w' (761 + 10 * x + 0) ≤ 1 → 0 ≤ w' (761 + 10 * x + 6) ∧ w' (761 + 10 * x + 6) ≤ 400)) ∧ (0 ≤ w' (761 + 10 * x + 7) ∧ w' (761 + 10 * x + 7) ≤ 9999 ∧ -1 ≤ w' (761 + 10 * x + 8) ∧ w' (761 + 10 * x + 8) < x ∧ w' (761 + 10 * x + 9) = 0)
/-- the class's words with it -/
def NwC (m m1 : Nat → Int → Int) (w' : Int → Int) (x : Int) : Prop := m1 16 3 = x + 1 ∧ (∀ (k : Nat) (i : Int), k ≤ 8 → 0 ≤ i → i < 30 → m1 (18 + k) i = if i = x then w' (761 + 10 * x + k) else m (18 + k) i) ∧ (∀ i : Int, 0 ≤ i → i < 30 → m1 27 i = if i = w' (761 + 10 * x + 8) then (((m 27 i).toNat ||| 2 ^ x.toNat : Nat) : Int) else m 27 i) ∧ (∀ i : Int, 0 ≤ i → i < 30 → m1 28 i = m 28 i) ∧ ∀ b i, ¬ (b = 16 ∧ i = 3) → ¬ (18 ≤ b ∧ b ≤ 27) → m1 b i = m b i
theorem nw_wrd (wrd : Rwrd (m 16 3) (fun k => if k = 9 then m 28 else m (18 + k.toNat)) (m 27) (m 139) (m 137)) (x30 : m 139 1 < 30) (v3 : 0 ≤ m 137 0) (v4 : m 137 0 ≤ 400) (e0 : w' 0 = m 139 0) (e1 : w' 1 = m 139 1 + 1) (eo : ∀ i, 761 ≤ i → i < 1061 → (i < 761 + 10 * m 139 1 ∨ 761 + 10 * m 139 1 + 10 ≤ i) → w' i = m 139 i) (B : NwB w' (m 139 1) (m 139 0) (m 137 0)) (N : NwC m m1 w' (m 139 1)) (hv : v' 0 = m 137 0) : Rwrd (m1 16 3) (fun k => if k = 9 then m1 28 else m1 (18 + k.toNat)) (m1 27) w' v' := by
  obtain ⟨h1, h2, h3, h4, h5, h6, h7, h8⟩ := wrd
  obtain ⟨n1, n2, n3, n4, n5⟩ := N
  generalize hx : m 139 1 = x at *
  have F9 : ∀ i : Int, 0 ≤ i → i < 30 → (if (9 : Int) = 9 then m1 28 else m1 (18 + (9 : Int).toNat)) i = m 28 i := fun i a b => n4 i a b
  have Fk : ∀ k i : Int, 0 ≤ k → k < 9 → 0 ≤ i → i < 30 → (if k = 9 then m1 28 else m1 (18 + k.toNat)) i = if i = x then w' (761 + 10 * x + k) else m (18 + k.toNat) i := fun k i k0 k1 a b => by
    rw [if_neg (by omega), n2 k.toNat i (by omega) a b, Int.toNat_of_nonneg k0]
  have O9 : ∀ i : Int, (if (9 : Int) = 9 then m 28 else m (18 + (9 : Int).toNat)) i = m 28 i := fun i => rfl
  have Ok : ∀ k i : Int, 0 ≤ k → k < 9 → (if k = 9 then m 28 else m (18 + k.toNat)) i = m (18 + k.toNat) i := fun k i k0 k1 => by rw [if_neg (by omega)]
  have old : ∀ k i : Int, 0 ≤ k → k < 10 → 0 ≤ i → i < 30 → i ≠ x → (if k = 9 then m1 28 else m1 (18 + k.toNat)) i = (if k = 9 then m 28 else m (18 + k.toNat)) i := fun k i k0 k1 a b c => by
    by_cases e : k = 9
    · subst e
      exact F9 i a b
    · rw [Fk k i k0 (by omega) a b, if_neg c, Ok k i k0 (by omega)]
  have new : ∀ k : Int, 0 ≤ k → k < 10 → (if k = 9 then m1 28 else m1 (18 + k.toNat)) x = w' (761 + 10 * x + k) := fun k k0 k1 => by
    by_cases e : k = 9
    · subst e
      have z := h7 x 9 (Int.le_refl _) x30 (by decide) (by decide) (by decide)
      rw [B.2.2.2.2.2.2]
      exact (F9 x h2 x30).trans z
    · rw [Fk k x k0 (by omega) h2 x30, if_pos rfl]
  refine ⟨by omega, by omega, by omega, fun y k y0 y1 k0 k1 => ?_, fun y y0 y1 => ?_, fun y z y0 yz z1 => ?_, fun y k y0 y1 k0 k1 k2 => ?_, fun y y0 y1 => ?_⟩
  · show (if k = 9 then m1 28 else m1 (18 + k.toNat)) y = _
    by_cases c : y = x
    · rw [c, new k k0 k1]
    · rw [old k y k0 k1 y0 (by omega) c, eo _ (by omega) (by omega) (by omega)]
      exact h4 y k y0 (by omega) k0 k1
  · by_cases c : y = x
    · subst c
      have a0 : m1 18 y = w' (761 + 10 * y + 0) := new 0 (by decide) (by decide)
      have a1 : m1 19 y = w' (761 + 10 * y + 1) := new 1 (by decide) (by decide)
      have a2 : m1 20 y = w' (761 + 10 * y + 2) := new 2 (by decide) (by decide)
      have a3 : m1 21 y = w' (761 + 10 * y + 3) := new 3 (by decide) (by decide)
      have a4 : m1 22 y = w' (761 + 10 * y + 4) := new 4 (by decide) (by decide)
      have a5 : m1 23 y = w' (761 + 10 * y + 5) := new 5 (by decide) (by decide)
      have a6 : m1 24 y = w' (761 + 10 * y + 6) := new 6 (by decide) (by decide)
      have a7 : m1 25 y = w' (761 + 10 * y + 7) := new 7 (by decide) (by decide)
      have a8 : m1 26 y = w' (761 + 10 * y + 8) := new 8 (by decide) (by decide)
      have a9 : m1 28 y = w' (761 + 10 * y + 9) := new 9 (by decide) (by decide)
      obtain ⟨⟨b0, b1, b2, b3, b4, b5, b6, b7, b8, b9, b10⟩, ⟨b11, b12, b13⟩, b14, b15, b16, b17, b18⟩ := B
      show (0 ≤ m1 18 y ∧ m1 18 y ≤ 5 ∧ 0 ≤ m1 19 y ∧ m1 19 y < w' 0 ∧ 0 ≤ m1 20 y ∧ m1 20 y ≤ v' 0 ∧ 1 ≤ m1 21 y ∧ m1 21 y ≤ 200 ∧ 0 ≤ m1 22 y ∧ m1 22 y ≤ 15 ∧ 0 ≤ m1 23 y ∧ m1 23 y ≤ 15) ∧ (-2147483648 ≤ m1 24 y ∧ m1 24 y < 2147483648 ∧ (m1 18 y ≤ 1 → 0 ≤ m1 24 y ∧ m1 24 y ≤ 400)) ∧ (0 ≤ m1 25 y ∧ m1 25 y ≤ 9999 ∧ -1 ≤ m1 26 y ∧ m1 26 y < y ∧ 0 ≤ m1 28 y ∧ m1 28 y ≤ 2)
      refine ⟨by omega, ⟨by omega, by omega, fun z => ?_⟩, by omega⟩
      have := b13 (by omega)
      omega
    · have h := h5 y y0 (by omega)
      have r0 : m1 18 y = m 18 y := old 0 y (by decide) (by decide) y0 (by omega) c
      have r1 : m1 19 y = m 19 y := old 1 y (by decide) (by decide) y0 (by omega) c
      have r2 : m1 20 y = m 20 y := old 2 y (by decide) (by decide) y0 (by omega) c
      have r3 : m1 21 y = m 21 y := old 3 y (by decide) (by decide) y0 (by omega) c
      have r4 : m1 22 y = m 22 y := old 4 y (by decide) (by decide) y0 (by omega) c
      have r5 : m1 23 y = m 23 y := old 5 y (by decide) (by decide) y0 (by omega) c
      have r6 : m1 24 y = m 24 y := old 6 y (by decide) (by decide) y0 (by omega) c
      have r7 : m1 25 y = m 25 y := old 7 y (by decide) (by decide) y0 (by omega) c
      have r8 : m1 26 y = m 26 y := old 8 y (by decide) (by decide) y0 (by omega) c
      have r9 : m1 28 y = m 28 y := old 9 y (by decide) (by decide) y0 (by omega) c
      have h' : (0 ≤ m 18 y ∧ m 18 y ≤ 5 ∧ 0 ≤ m 19 y ∧ m 19 y < m 139 0 ∧ 0 ≤ m 20 y ∧ m 20 y ≤ m 137 0 ∧ 1 ≤ m 21 y ∧ m 21 y ≤ 200 ∧ 0 ≤ m 22 y ∧ m 22 y ≤ 15 ∧ 0 ≤ m 23 y ∧ m 23 y ≤ 15) ∧ (-2147483648 ≤ m 24 y ∧ m 24 y < 2147483648 ∧ (m 18 y ≤ 1 → 0 ≤ m 24 y ∧ m 24 y ≤ 400)) ∧ (0 ≤ m 25 y ∧ m 25 y ≤ 9999 ∧ -1 ≤ m 26 y ∧ m 26 y < y ∧ 0 ≤ m 28 y ∧ m 28 y ≤ 2) := h
      show (0 ≤ m1 18 y ∧ m1 18 y ≤ 5 ∧ 0 ≤ m1 19 y ∧ m1 19 y < w' 0 ∧ 0 ≤ m1 20 y ∧ m1 20 y ≤ v' 0 ∧ 1 ≤ m1 21 y ∧ m1 21 y ≤ 200 ∧ 0 ≤ m1 22 y ∧ m1 22 y ≤ 15 ∧ 0 ≤ m1 23 y ∧ m1 23 y ≤ 15) ∧ (-2147483648 ≤ m1 24 y ∧ m1 24 y < 2147483648 ∧ (m1 18 y ≤ 1 → 0 ≤ m1 24 y ∧ m1 24 y ≤ 400)) ∧ (0 ≤ m1 25 y ∧ m1 25 y ≤ 9999 ∧ -1 ≤ m1 26 y ∧ m1 26 y < y ∧ 0 ≤ m1 28 y ∧ m1 28 y ≤ 2)
      rw [r0, r1, r2, r3, r4, r5, r6, r7, r8, r9, e0, hv]
      exact h'
  · show (if (2 : Int) = 9 then m1 28 else m1 (18 + (2 : Int).toNat)) y ≤ (if (2 : Int) = 9 then m1 28 else m1 (18 + (2 : Int).toNat)) z
    by_cases c : z = x
    · rw [c, new 2 (by decide) (by decide), B.1.2.2.2.2.1]
      by_cases d : y = x
      · rw [d, new 2 (by decide) (by decide), B.1.2.2.2.2.1]
        exact Int.le_refl _
      · rw [old 2 y (by decide) (by decide) y0 (by omega) d]
        exact (h5 y y0 (by omega)).1.2.2.2.2.2.1
    · rw [old 2 y (by decide) (by decide) y0 (by omega) (by omega), old 2 z (by decide) (by decide) (by omega) (by omega) c]
      exact h6 y z y0 yz (by omega)
  · show (if k = 9 then m1 28 else m1 (18 + k.toNat)) y = 0
    rw [old k y (by omega) k1 (by omega) y1 (by omega)]
    exact h7 y k (by omega) y1 k0 k1 k2
  · obtain ⟨a1, a2, a3⟩ := h8 y y0 y1
    have ol := or_lt (n := (m 27 y).toNat) (k := x.toNat) (b := 30) (by omega) (by omega)
    have tx := fun i => tb_or (m 27 y).toNat x.toNat i
    rw [n3 y y0 y1]
    by_cases c : y = w' (761 + 10 * x + 8)
    · rw [if_pos c]
      refine ⟨by omega, by omega, fun u u0 u1 => ?_⟩
      rw [Int.toNat_natCast, tx]
      by_cases d : u = x
      · rw [d, if_pos rfl]
        exact ⟨fun _ => ⟨by omega, c.symm⟩, fun _ => rfl⟩
      · rw [if_neg (by omega), a3 u u0 u1]
        constructor
        · rintro ⟨z1, z2⟩
          exact ⟨by omega, by rw [eo _ (by omega) (by omega) (by omega)]; exact z2⟩
        · rintro ⟨z1, z2⟩
          exact ⟨by omega, by rw [eo _ (by omega) (by omega) (by omega)] at z2; exact z2⟩
    · rw [if_neg c]
      refine ⟨a1, a2, fun u u0 u1 => ?_⟩
      rw [a3 u u0 u1]
      constructor
      · rintro ⟨z1, z2⟩
        exact ⟨by omega, by rw [eo _ (by omega) (by omega) (by omega)]; exact z2⟩
      · rintro ⟨z1, z2⟩
        by_cases d : u = x
        · rw [d] at z2
          exact absurd z2.symm c
        · exact ⟨by omega, by rw [eo _ (by omega) (by omega) (by omega)] at z2; exact z2⟩
/-- words by the relation -/
theorem Rwrd.wok {n : Int} {F : Int → Int → Int} {u w v : Int → Int} (h : Rwrd n F u w v) (t : Rtol w) (v4 : v 0 ≤ 400) : Wok w := by
  obtain ⟨h1, h2, h3, h4, h5, h6, h7, h8⟩ := h
  refine ⟨t, ⟨h2, h3⟩, fun x x0 x1 => ?_⟩
  obtain ⟨⟨a1, a2, a3, a4, a5, a6, a7, a8, a9⟩, -, b1, b2, b3, b4, -⟩ := h5 x x0 x1
  rw [← h4 x 0 x0 x1 (by decide) (by decide), ← h4 x 1 x0 x1 (by decide) (by decide), ← h4 x 2 x0 x1 (by decide) (by decide), ← h4 x 3 x0 x1 (by decide) (by decide), ← h4 x 7 x0 x1 (by decide) (by decide), ← h4 x 8 x0 x1 (by decide) (by decide)]
  exact ⟨⟨a1, a2, a3, a4⟩, ⟨a5, by omega, a7, a8⟩, b1, b2, b3, b4⟩
theorem Rwrd.wrdC {w v : Int → Int} (h : Rwrd (m 16 3) (fun k => if k = 9 then m 28 else m (18 + k.toNat)) (m 27) w v) : WrdC m w := by
  obtain ⟨h1, h2, h3, h4, h5, h6, h7, h8⟩ := h
  refine ⟨h1, fun x x0 x1 => ⟨h4 x 0 x0 x1 (by decide) (by decide), h4 x 1 x0 x1 (by decide) (by decide), h4 x 2 x0 x1 (by decide) (by decide), h4 x 3 x0 x1 (by decide) (by decide), h4 x 7 x0 x1 (by decide) (by decide), h4 x 8 x0 x1 (by decide) (by decide)⟩, h8⟩
/-- the class with the new word, before it is told -/
theorem nw_cx (hs : Sk S) (hI : InvM S m q) (x30 : m 139 1 < 30) (e0 : w' 0 = m 139 0) (e1 : w' 1 = m 139 1 + 1) (eo : ∀ i, i ≠ 1 → (i < 761 + 10 * m 139 1 ∨ 761 + 10 * m 139 1 + 10 ≤ i) → w' i = m 139 i) (B : NwB w' (m 139 1) (m 139 0) (m 137 0)) (N : NwC m m1 w' (m 139 1)) : CX S m1 q 46 10 (m 139 1) w' (m 137) (fun k => m 139 (4239 + k)) ∧ ∀ v' : Int → Int, v' 0 = m 137 0 → Rwrd (m1 16 3) (fun k => if k = 9 then m1 28 else m1 (18 + k.toNat)) (m1 27) w' v' := by
  obtain ⟨⟨w0, w1, w2⟩, ⟨w3, w4, w5, w6⟩, ⟨v0, v1, v2⟩, l0⟩ := hI.small
  obtain ⟨tap, by0, lot0, ⟨par, hid, prt, sto, gan, wrd, wlk, row, rul, tol, plc, net, dwn⟩, kep⟩ := hI.get
  have v4 : m 137 0 ≤ 400 := net.1.2.2.2.2.1
  have x0 : 0 ≤ m 139 1 := wrd.2.1
  have t10 : m 139 0 ≤ 10 := tol.2.1
  have RW : ∀ v' : Int → Int, v' 0 = m 137 0 → Rwrd (m1 16 3) (fun k => if k = 9 then m1 28 else m1 (18 + k.toNat)) (m1 27) w' v' := fun v' hv => nw_wrd wrd x30 v0 v4 e0 e1 (fun i _ _ h => eo i (by omega) h) B N hv
  have tol' : Rtol w' := tol.w e0 (fun i a b => eo i (by omega) (by omega))
  have n5 := N.2.2.2.2
  refine ⟨⟨⟨hs, hs.Net46, hs.Rul, by decide, by decide⟩, (RW _ rfl).wok tol' v4, (RW _ rfl).wrdC, ?_, ?_⟩, RW⟩
  · exact net.congr t10 (fun i a b => n5 _ _ (by omega) (by omega)) (fun o a b => funext fun i => n5 _ _ (by omega) (by omega)) (fun o a b => rfl) e0 (by omega) (fun i a b => eo i (by omega) (by omega)) (fun i a b => rfl) (by omega)
  · have R0 : RulC m 10 (fun k => m 139 (4239 + k)) := rul
    exact R0.cg (n5 _ _ (by omega) (by omega)) (n5 _ _ (by omega) (by omega)) (fun b i b0 b1 => n5 _ _ (by omega) (by omega))
/-- the town with the new word told -/
theorem nw_inv (hs : Sk S) (hR : 153 ≤ S.1) (hI : InvM S m q) (x30 : m 139 1 < 30) (e0 : w' 0 = m 139 0) (e1 : w' 1 = m 139 1 + 1) (eo : ∀ i, i ≠ 1 → (i < 761 + 10 * m 139 1 ∨ 761 + 10 * m 139 1 + 10 ≤ i) → w' i = m 139 i) (B : NwB w' (m 139 1) (m 139 0) (m 137 0)) (N : NwC m m1 w' (m 139 1)) (N2 : NetC m2 q2 46 (m 139 1 + 1) w' v') (F2 : ∀ b i, (b < 46 ∨ 68 ≤ b) → b ≠ 15 → ¬ (b = 10 ∧ i = 7) → m2 b i = m1 b i) (G2 : ∀ b, b ≠ 61 → b ≠ 66 → q2 b = q b) (G4 : ∀ b, b ≠ 152 → q4 b = q2 b) (e9 : m4 139 = w') (e7 : m4 137 = v') (ev : ∀ i, i < 51 → (∀ p : Int, 0 ≤ p → i ≠ 1 + 5 * p + 4) → v' i = m 137 i) (F4 : ∀ b i, b ≠ 137 → b ≠ 139 → b ≠ 143 → b ≠ 144 → b ≠ 145 → ¬ (b = 136 ∧ i = 0) → m4 b i = m2 b i) : InvM S m4 q4 := by
  obtain ⟨⟨w0, w1, w2⟩, ⟨w3, w4, w5, w6⟩, ⟨v0, v1, v2⟩, l0⟩ := hI.small
  obtain ⟨tap, by0, lot0, ⟨par, hid, prt, sto, gan, wrd, wlk, row, rul, tol, plc, net, dwn⟩, kep⟩ := hI.get
  have v4 : m 137 0 ≤ 400 := net.1.2.2.2.2.1
  have x0 : 0 ≤ m 139 1 := wrd.2.1
  have t10 : m 139 0 ≤ 10 := tol.2.1
  have n5 := N.2.2.2.2
  have v00 : v' 0 = m 137 0 := ev 0 (by decide) (fun p p0 => by omega)
  have RW := (nw_cx hs hI x30 e0 e1 eo B N).2 v' v00
  have e : ∀ b i, ¬ (46 ≤ b ∧ b < 68) → ¬ (b = 16 ∧ i = 3) → ¬ (18 ≤ b ∧ b ≤ 27) → b ≠ 15 → ¬ (b = 10 ∧ i = 7) → b ≠ 137 → b ≠ 139 → b ≠ 143 → b ≠ 144 → b ≠ 145 → ¬ (b = 136 ∧ i = 0) → m4 b i = m b i := fun b i h1 h2 h3 h4 h5 h6 h7 h8 h9 h10 h11 => (F4 b i h6 h7 h8 h9 h10 h11).trans ((F2 b i (by omega) h4 h5).trans (n5 b i h2 h3))
  have ew : ∀ i, i ≠ 1 → (i < 761 + 10 * m 139 1 ∨ 761 + 10 * m 139 1 + 10 ≤ i) → m4 139 i = m 139 i := fun i a b => by rw [e9]; exact eo i a b
  have a9 : ∀ b i, ((b = 139 ∧ i ≠ 1 ∧ (i < 761 ∨ 1061 ≤ i)) ∨ ¬ (46 ≤ b ∧ b < 68) ∧ ¬ (b = 16 ∧ i = 3) ∧ ¬ (18 ≤ b ∧ b ≤ 27) ∧ b ≠ 15 ∧ ¬ (b = 10 ∧ i = 7) ∧ b ≠ 137 ∧ b ≠ 139 ∧ b ≠ 143 ∧ b ≠ 144 ∧ b ≠ 145 ∧ ¬ (b = 136 ∧ i = 0)) → m4 b i = m b i := fun b i h => by
    rcases h with ⟨h1, h2, h3⟩ | ⟨h1, h2, h3, h4, h5, h6, h7, h8, h9, h10, h11⟩
    · rw [h1]
      exact ew i h2 (by omega)
    · exact e b i h1 h2 h3 h4 h5 h6 h7 h8 h9 h10 h11
  refine InvM.mk ⟨k_tap tap (fun b i hb => a9 b i (by omega)), (a9 136 6 (by omega)).trans by0, (a9 136 7 (by omega)).trans lot0, ⟨k_par par (fun b i hb => a9 b i (by omega)), k_hid hid (fun b i hb => a9 b i (by omega)), k_prt prt (fun b i hb => a9 b i (by omega)), k_sto sto (fun b i hb => a9 b i (by omega)), k_gan gan (fun b i hb => a9 b i (by omega)), ?_, k_wlk wlk (fun b i hb => a9 b i (by omega)), ?_, k_rul rul (fun b i hb => a9 b i (by omega)), k_tol tol (fun b i hb => a9 b i (by omega)), ?_, ?_, ?_⟩, k_kep kep (Grow.rfl' S) hR (fun b i hb => a9 b i (by omega)) (fun b hb => (G4 b (by omega)).trans (G2 b (by omega) (by omega)))⟩
  · rw [e9, e7, F4 16 3 (by decide) (by decide) (by decide) (by decide) (by decide) (by decide), F2 16 3 (by decide) (by decide) (by decide), show m4 27 = m1 27 from funext fun i => (F4 27 i (by decide) (by decide) (by decide) (by decide) (by decide) (by omega)).trans (F2 27 i (by decide) (by decide) (by omega))]
    have eF : (fun k : Int => if k = 9 then m4 28 else m4 (18 + k.toNat)) = fun k : Int => if k = 9 then m1 28 else m4 (18 + k.toNat) := funext fun k => by
      rw [show m4 28 = m1 28 from funext fun i => (F4 28 i (by decide) (by decide) (by decide) (by decide) (by decide) (by omega)).trans (F2 28 i (by decide) (by decide) (by omega))]
    refine RW.w (fun k y k0 k1 y0 y1 => ?_) rfl rfl rfl (fun i _ _ => rfl) (Int.le_refl _)
    by_cases c : k = 9
    · simp only [c, if_true]
      exact (F4 28 y (by decide) (by decide) (by decide) (by decide) (by decide) (by omega)).trans (F2 28 y (by decide) (by decide) (by omega))
    · simp only [c, if_false]
      exact (F4 _ y (by omega) (by omega) (by omega) (by omega) (by omega) (by omega)).trans (F2 _ y (by omega) (by omega) (by omega))
  · refine k_row row v4 (fun b i hb => ?_)
    by_cases c : b = 137 ∧ i = 0
    · rw [c.1, c.2, e7]
      exact v00
    · exact a9 b i (by omega)
  · rw [e9, e7]
    intro p p0 p1
    rw [ev _ (by omega) (fun p' h => by omega), v00, plcA_congr (w := m 139) (by decide) (by decide) p0 (by omega) (show m 139 (2 + 0) ≤ 60 from l0) (fun i a b => eo i (by omega) (by omega)) (fun i a b => eo i (by omega) (by omega)) (fun i a b => eo i (by omega) (by omega))]
    exact plc p p0 (by omega)
  · rw [e9, e7, e1]
    refine Rnet.congr N2 (by omega) (fun i a b => F4 _ _ (by omega) (by omega) (by omega) (by omega) (by omega) (by omega)) (fun o a b => funext fun i => F4 _ _ (by omega) (by omega) (by omega) (by omega) (by omega) (by omega)) (fun o a b => G4 _ (by omega)) rfl (Int.le_refl _) (fun i a b => rfl) (fun i a b => rfl) (by omega)
  · rw [e9, e7]
    intro hv
    rw [v00] at hv
    obtain ⟨a1, a2, told, a3, a4⟩ := dwn hv
    have b1 := a3.1.2.2.2.2.2.2
    refine ⟨(eo _ (by omega) (by omega)).trans a1, fun p p0 p1 => ?_, told, a3.congr t10 (fun i a b => a9 _ _ (by omega)) (fun o a b => funext fun i => a9 _ _ (by omega)) (fun o a b => (G4 _ (by omega)).trans (G2 _ (by omega) (by omega))) e0 (by omega) (fun i a b => eo _ (by omega) (by omega)) (fun i i0 i1 => eo _ (by omega) (by omega)) (by omega), fun y y0 y1 => ?_⟩
    · rw [eo _ (by omega) (by omega), eo _ (by omega) (by omega)]
      exact a2 p p0 (by omega)
    · by_cases c : y = m 139 1
      · rw [c, B.1.2.2.2.2.1]
        omega
      · rw [eo _ (by omega) (by omega)]
        exact a4 y y0 (by omega)
end NEWW
