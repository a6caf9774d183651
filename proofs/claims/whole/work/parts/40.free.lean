/-! what a call may leave as it likes -/
def Free (b : Nat) (i : Int) : Prop := (2 ≤ b ∧ b ≤ 7 ∧ ¬ (b = 5 ∧ i = 0)) ∨ b = 15 ∨ b = 67 ∨ b = 97 ∨ b = 98 ∨ b = 109 ∨ b = 110 ∨ (111 ≤ b ∧ b ≤ 135) ∨ b = 138 ∨ (142 ≤ b ∧ b ≤ 152) ∨ (b = 1 ∧ 4 ≤ i) ∨ (b = 10 ∧ i = 7) ∨ (b = 46 ∧ 5 ≤ i) ∨ (b = 93 ∧ 7 ≤ i) ∨ (b = 99 ∧ 7 ≤ i) ∨ (b = 136 ∧ i ≠ 5 ∧ i ≠ 6 ∧ i ≠ 7 ∧ i ≠ 9 ∧ i ≠ 14)
section FREE
variable {S S' : xH} {m m' : Nat → Int → Int} {q q' : Nat → Int → Int64}
/-- the parts, with the numbers of the live town's cells -/
theorem InvM.get (h : InvM S m q) : Rtap (m 1 2) (m 1 3) (m 8) (m 136 9) (m 136 14) (m 141) ∧ m 136 6 = 0 ∧ m 136 7 = 0 ∧
  (Rpar (m 9 8) (m 93 6) (m 139) ∧ Rhid (m 9 9) (m 139) ∧ Rprt (m 93 5) (m 94) (m 95) (m 96) (m 139) ∧ Rsto (m 99 5) (m 101) (m 102) (m 103) (m 104) (m 105) (m 106) (m 139) ∧ Rgan (m 99 6) (m 107) (m 108) (m 139) ∧
    Rwrd (m 16 3) (fun k => if k = 9 then m 28 else m (18 + k.toNat)) (m 27) (m 139) (m 137) ∧ Rwlk (m 45) (fun l => m (31 + l.toNat)) (fun l => m (36 + l.toNat)) (fun l => m (41 + l.toNat)) (m 139) ∧ Rrow (m 90 2) (m 91) (m 92) (m 139) (m 137) ∧
    Rrul (m 10 3) (m 10 5) (m 11) (m 12) (m 13) (m 14) (fun k => m 139 (4239 + k)) ∧ Rtol (m 139) ∧ Rplc 0 (m 139) (m 137) ∧ Rnet (fun o => m (46 + o)) (fun o => q (46 + o)) (m 139 1) (m 139) (m 137) ∧ Rdwn (fun o => m (68 + o)) (fun o => q (68 + o)) (m 139) (m 137)) ∧ Rkep S m q := h
theorem InvM.mk (h : Rtap (m 1 2) (m 1 3) (m 8) (m 136 9) (m 136 14) (m 141) ∧ m 136 6 = 0 ∧ m 136 7 = 0 ∧
  (Rpar (m 9 8) (m 93 6) (m 139) ∧ Rhid (m 9 9) (m 139) ∧ Rprt (m 93 5) (m 94) (m 95) (m 96) (m 139) ∧ Rsto (m 99 5) (m 101) (m 102) (m 103) (m 104) (m 105) (m 106) (m 139) ∧ Rgan (m 99 6) (m 107) (m 108) (m 139) ∧
    Rwrd (m 16 3) (fun k => if k = 9 then m 28 else m (18 + k.toNat)) (m 27) (m 139) (m 137) ∧ Rwlk (m 45) (fun l => m (31 + l.toNat)) (fun l => m (36 + l.toNat)) (fun l => m (41 + l.toNat)) (m 139) ∧ Rrow (m 90 2) (m 91) (m 92) (m 139) (m 137) ∧
    Rrul (m 10 3) (m 10 5) (m 11) (m 12) (m 13) (m 14) (fun k => m 139 (4239 + k)) ∧ Rtol (m 139) ∧ Rplc 0 (m 139) (m 137) ∧ Rnet (fun o => m (46 + o)) (fun o => q (46 + o)) (m 139 1) (m 139) (m 137) ∧ Rdwn (fun o => m (68 + o)) (fun o => q (68 + o)) (m 139) (m 137)) ∧ Rkep S m q) : InvM S m q := h
/-- small numbers that most calls need -/
theorem InvM.small (h : InvM S m q) : (0 ≤ m 139 0 ∧ m 139 0 ≤ 10 ∧ m 46 3 = m 139 0) ∧ (0 ≤ m 139 1 ∧ m 139 1 ≤ 30 ∧ m 16 3 = m 139 1 ∧ m 46 4 = m 139 1) ∧ (0 ≤ m 137 0 ∧ m 137 0 ≤ 400 ∧ m 46 2 = m 137 0) ∧ m 139 2 ≤ 60 := by
  obtain ⟨tap, by0, lot0, ⟨par, hid, prt, sto, gan, wrd, wlk, row, rul, tol, plc, net, dwn⟩, kep⟩ := h.get
  obtain ⟨n1, n2, n3, n4, n5, -⟩ := net.1
  exact ⟨⟨tol.1, tol.2.1, n1⟩, ⟨wrd.2.1, wrd.2.2.1, wrd.1, n3⟩, ⟨n4, n5, n2⟩, (wlk 0 (by omega) (by omega)).2.2.1⟩
theorem InvM.free (h : InvM S m q) (g : Grow S S') (hr : 153 ≤ S.1) (e : ∀ b i, ¬ Free b i → m' b i = m b i) (eq : ∀ b, b ≤ 110 ∨ 153 ≤ b → q' b = q b) : InvM S' m' q' := by
  obtain ⟨⟨-, w0, -⟩, ⟨-, w1, -⟩, ⟨-, v0, -⟩, l0⟩ := h.small
  obtain ⟨tap, by0, lot0, ⟨par, hid, prt, sto, gan, wrd, wlk, row, rul, tol, plc, net, dwn⟩, kep⟩ := h.get
  refine InvM.mk ⟨k_tap tap (fun b i hb => e b i (by unfold Free; omega)), (e 136 6 (by unfold Free; omega)).trans by0, (e 136 7 (by unfold Free; omega)).trans lot0, ⟨k_par par (fun b i hb => e b i (by unfold Free; omega)), k_hid hid (fun b i hb => e b i (by unfold Free; omega)), k_prt prt (fun b i hb => e b i (by unfold Free; omega)), k_sto sto (fun b i hb => e b i (by unfold Free; omega)), k_gan gan (fun b i hb => e b i (by unfold Free; omega)), k_wrd wrd (fun b i hb => e b i (by unfold Free; omega)) (by rw [e 137 0 (by unfold Free; omega)]; omega), k_wlk wlk (fun b i hb => e b i (by unfold Free; omega)), k_row row v0 (fun b i hb => e b i (by unfold Free; omega)), k_rul rul (fun b i hb => e b i (by unfold Free; omega)), k_tol tol (fun b i hb => e b i (by unfold Free; omega)), k_plc plc w0 l0 (fun b i hb => e b i (by unfold Free; omega)), k_net net w0 w1 (fun b i hb => e b i (by unfold Free; omega)) (fun b b0 b1 => eq b (by omega)), k_dwn dwn w0 w1 (fun b i hb => e b i (by unfold Free; omega)) (fun b b0 b1 => eq b (by omega))⟩, k_kep kep g hr (fun b i hb => e b i (by unfold Free; omega)) (fun b hb => eq b (by omega))⟩
theorem Room.next {j : Nat} (h : Room S j) : Room S (j + 1) := ⟨h.1, by have := h.2.1; omega, by have := h.2.2; omega⟩
theorem Room.th {j : Nat} (h : Room S j) (k : Nat) : Room (xth S k) (j + 1) := ⟨Nat.le_succ_of_le h.1, by have := h.2.1; show S.1 + 1 ≤ _; omega, by have := h.2.2; show S.2.1 + 6 ≤ _; omega⟩
/-- a call that threw, and changed nothing else -/
theorem Inv.thr {j : Nat} (h : InvM S m q) (hs : Sk S) (hR : Room S j) (k : Nat) (c : Int) : Inv (j + 1) (hp (xth S k) (up (up m 136 0 0) 136 0 c) q) :=
  ⟨_, _, _, rfl, hs.grow (Grow.th S k) hR.1, hR.th k, h.free (Grow.th S k) hR.1 (fun b i hb => by
    unfold Free at hb
    rw [up_get, if_neg (by omega), up_get, if_neg (by omega)]) (fun _ _ => rfl)⟩
/-- a call that changed nothing but its answer -/
theorem Inv.ro {j : Nat} (h : InvM S m q) (hs : Sk S) (hR : Room S j) (y : Int64) : Inv (j + 1) (hp S (up m 136 0 0) (uq q 152 0 y)) :=
  ⟨_, _, _, rfl, hs, hR.next, h.free (Grow.rfl' S) hR.1 (fun b i hb => by
    unfold Free at hb
    rw [up_get, if_neg (by omega)]) (fun b hb => uq_row (by omega))⟩
theorem Inv.ro' {j : Nat} (h : InvM S m q) (hs : Sk S) (hR : Room S j) : Inv (j + 1) (hp S (up m 136 0 0) q) :=
  ⟨_, _, _, rfl, hs, hR.next, h.free (Grow.rfl' S) hR.1 (fun b i hb => by
    unfold Free at hb
    rw [up_get, if_neg (by omega)]) (fun b hb => rfl)⟩
end FREE
theorem w_next : LawOb Inv 0 136 152 40 := by
  rintro j P ⟨S, m, q, hP, hs, hR, hI⟩
  exact ⟨S, m, q, hP, hs, hR.next, hI⟩
theorem w_self : LawOb Inv 0 136 152 41 := by
  rintro j P ⟨S, m, q, rfl, hs, hR, hI⟩
  exact x0_k hs
