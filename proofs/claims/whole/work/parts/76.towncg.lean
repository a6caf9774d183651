/-! a town over cells that are alike where they are copied -/
theorem Rtown.cg {t t' : Nat} {m m' : Nat → Int → Int} {q q' : Nat → Int → Int64} {w v w' v' : Int → Int} (h : Rtown t m q w v) (o0 : m' t' 8 = m t 8 ∧ m' t' 9 = m t 9) (o1 : m' (t' + 1) 3 = m (t + 1) 3 ∧ m' (t' + 1) 5 = m (t + 1) 5) (o7 : m' (t' + 7) 3 = m (t + 7) 3) (o37 : ∀ i : Int, 2 ≤ i → i ≤ 4 → m' (t' + 37) i = m (t + 37) i) (o59 : ∀ i : Int, 2 ≤ i → i ≤ 4 → m' (t' + 59) i = m (t + 59) i) (o81 : m' (t' + 81) 2 = m (t + 81) 2) (o84 : m' (t' + 84) 5 = m (t + 84) 5 ∧ m' (t' + 84) 6 = m (t + 84) 6) (o90 : m' (t' + 90) 5 = m (t + 90) 5 ∧ m' (t' + 90) 6 = m (t + 90) 6) (r2 : ∀ (o : Nat) (i : Int), 2 ≤ o → o ≤ 3 → 0 ≤ i → i < 10 → m' (t' + o) i = m (t + o) i) (r4 : ∀ (o : Nat) (i : Int), 4 ≤ o → o ≤ 4 → 0 ≤ i → i < 11 → m' (t' + o) i = m (t + o) i) (r5 : ∀ (o : Nat) (i : Int), 5 ≤ o → o ≤ 5 → 0 ≤ i → i < 200 → m' (t' + o) i = m (t + o) i) (r9 : ∀ (o : Nat) (i : Int), 9 ≤ o → o ≤ 19 → 0 ≤ i → i < 30 → m' (t' + o) i = m (t + o) i) (r22 : ∀ (o : Nat) (i : Int), 22 ≤ o → o ≤ 25 → 0 ≤ i → i < 60 → m' (t' + o) i = m (t + o) i) (r27 : ∀ (o : Nat) (i : Int), 27 ≤ o → o ≤ 30 → 0 ≤ i → i < 60 → m' (t' + o) i = m (t + o) i) (r32 : ∀ (o : Nat) (i : Int), 32 ≤ o → o ≤ 35 → 0 ≤ i → i < 60 → m' (t' + o) i = m (t + o) i) (r36 : ∀ (o : Nat) (i : Int), 36 ≤ o → o ≤ 36 → 0 ≤ i → i < 4 → m' (t' + o) i = m (t + o) i) (rn : ∀ (o : Nat) (i : Int), 0 ≤ i → ((2 ≤ o ∧ o ≤ 9 ∧ i < 10) ∨ (11 ≤ o ∧ o ≤ 14 ∧ i < 300) ∨ (o = 16 ∧ i < 10) ∨ (17 ≤ o ∧ o ≤ 19 ∧ i < 30)) → m' (t' + 37 + o) i = m (t + 37 + o) i) (rd : ∀ (o : Nat) (i : Int), 0 ≤ i → ((2 ≤ o ∧ o ≤ 9 ∧ i < 10) ∨ (11 ≤ o ∧ o ≤ 14 ∧ i < 300) ∨ (o = 16 ∧ i < 10) ∨ (17 ≤ o ∧ o ≤ 19 ∧ i < 30)) → m' (t' + 59 + o) i = m (t + 59 + o) i) (r82 : ∀ (o : Nat) (i : Int), 82 ≤ o → o ≤ 83 → 0 ≤ i → i < 8 → m' (t' + o) i = m (t + o) i) (r85 : ∀ (o : Nat) (i : Int), 85 ≤ o → o ≤ 87 → 0 ≤ i → i < 7 → m' (t' + o) i = m (t + o) i) (r92 : ∀ (o : Nat) (i : Int), 92 ≤ o → o ≤ 97 → 0 ≤ i → i < 5 → m' (t' + o) i = m (t + o) i) (r98 : ∀ (o : Nat) (i : Int), 98 ≤ o → o ≤ 99 → 0 ≤ i → i < 4 → m' (t' + o) i = m (t + o) i) (qn : ∀ (o : Nat) (i : Int), 0 ≤ i → ((o = 15 ∧ i < 300) ∨ (o = 20 ∧ i < 30)) → q' (t' + 37 + o) i = q (t + 37 + o) i) (qd : ∀ (o : Nat) (i : Int), 0 ≤ i → ((o = 15 ∧ i < 300) ∨ (o = 20 ∧ i < 30)) → q' (t' + 59 + o) i = q (t + 59 + o) i) (ew : ∀ i, 0 ≤ i → i < 5080 → w' i = w i) (ev : ∀ i, 0 ≤ i → i < 2301 → v' i = v i) : Rtown t' m' q' w' v' := by
  obtain ⟨par, hid, prt, sto, gan, wrd, wlk, row, rul, tol, plc, net, dwn⟩ := h
  have k0 := tol.2.1
  have k1 := wrd.2.2.1
  have k2 := net.1.2.2.2.2.1
  have k3 := (wlk 0 (by omega) (by omega)).2.2.1
  have z0 := ew 0 (by omega) (by omega)
  have z1 := ew 1 (by omega) (by omega)
  have y0 := ev 0 (by omega) (by omega)
  refine ⟨?_, ?_, ?_, ?_, ?_, ?_, ?_, ?_, ?_, ?_, ?_, ?_, ?_⟩
  · rw [o0.1, o84.2]
    exact par.w (ew _ (by omega) (by omega)) (ew _ (by omega) (by omega))
  · rw [o0.2]
    exact hid.w (fun i a b => ew _ (by omega) (by omega))
  · exact prt.cg o84.1 (fun k a b => r85 85 k (by omega) (by omega) a b) (fun k a b => r85 86 k (by omega) (by omega) a b) (fun k a b => r85 87 k (by omega) (by omega) a b) (ew _ (by omega) (by omega)) (fun i a b => ew _ (by omega) (by omega))
  · exact sto.cg o90.1 (fun k a b => r92 92 k (by omega) (by omega) a b) (fun k a b => r92 93 k (by omega) (by omega) a b) (fun k a b => r92 94 k (by omega) (by omega) a b) (fun k a b => r92 95 k (by omega) (by omega) a b) (fun k a b => r92 96 k (by omega) (by omega) a b) (fun k a b => r92 97 k (by omega) (by omega) a b) (ew _ (by omega) (by omega)) (fun i a b => ew _ (by omega) (by omega))
  · exact gan.cg o90.2 (fun k a b => r98 98 k (by omega) (by omega) a b) (fun k a b => r98 99 k (by omega) (by omega) a b) (ew _ (by omega) (by omega)) (fun i a b => ew _ (by omega) (by omega))
  · refine wrd.cg o7 (fun k x a b c d => ?_) (fun k a b => r9 18 k (by omega) (by omega) a b) z0 z1 (fun i a b => ew _ (by omega) (by omega)) (by omega)
    by_cases hk : k = 9
    · simp only [hk, if_true]
      exact r9 19 x (by omega) (by omega) c d
    · simp only [hk, if_false]
      have := r9 (9 + k.toNat) x (by omega) (by omega) c d
      rwa [← Nat.add_assoc, ← Nat.add_assoc] at this
  · refine wlk.cg (fun k a b => r36 36 k (by omega) (by omega) a b) (fun l k a b c d => ?_) (fun l k a b c d => ?_) (fun l k a b c d => ?_) z0 (fun i a b => ew _ (by omega) (by omega)) (fun i a b => ew _ (by omega) (by omega))
    · have := r22 (22 + l.toNat) k (by omega) (by omega) c d
      rwa [← Nat.add_assoc, ← Nat.add_assoc] at this
    · have := r27 (27 + l.toNat) k (by omega) (by omega) c d
      rwa [← Nat.add_assoc, ← Nat.add_assoc] at this
    · have := r32 (32 + l.toNat) k (by omega) (by omega) c d
      rwa [← Nat.add_assoc, ← Nat.add_assoc] at this
  · exact row.cg o81 (fun k a b => r82 82 k (by omega) (by omega) a b) (fun k a b => r82 83 k (by omega) (by omega) a b) (fun i a b => ew _ (by omega) (by omega)) y0 k2
  · exact rul.cg o1.1 o1.2 (fun k a b => r2 2 k (by omega) (by omega) a b) (fun k a b => r2 3 k (by omega) (by omega) a b) (fun k a b => r4 4 k (by omega) (by omega) a b) (fun k a b => r5 5 k (by omega) (by omega) a b) (fun i a b => ew _ (by omega) (by omega))
  · exact tol.w z0 (fun i a b => ew _ (by omega) (by omega))
  · exact plc.w k0 (by omega) (by omega) k3 z0 (fun i a b => ew _ (by omega) (by omega)) (fun i a b => ew _ (by omega) (by omega)) (fun i a b => ew _ (by omega) (by omega)) (fun i a b => ev _ (by omega) (by omega))
  · rw [z1]
    exact net.cgr k0 (fun i a b => o37 i a b) rn qn z0 (by omega) (fun i a b => ew _ (by omega) (by omega)) (fun i a b => ev _ (by omega) (by omega)) k1
  · exact dwn.cg k0 k1 (fun i a b => o59 i a b) rd qd z0 z1 (fun i a b => ew _ (by omega) (by omega)) (fun x a b => ew _ (by omega) (by omega)) (fun i a b => ew _ (by omega) (by omega)) y0
