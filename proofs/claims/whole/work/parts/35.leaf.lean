/-! small methods of the reference over numbers -/
theorem J_ite0 (c : Prop) [Decidable c] : (J (if c then 1 else 0) = J 0) = ¬ c := by
  by_cases h : c
  · rw [if_pos h, J_eq (by omega) (by omega) (by omega) (by omega)]
    simp [h]
  · rw [if_neg h]
    simp [h]
theorem J_ite1 (c : Prop) [Decidable c] : (J (if c then 1 else 0) = J 1) = c := by
  by_cases h : c
  · rw [if_pos h]
    simp [h]
  · rw [if_neg h, J_eq (by omega) (by omega) (by omega) (by omega)]
    simp [h]
theorem J_ite01 (c : Prop) [Decidable c] : (J (if c then 1 else 0) = J 0 ∨ J (if c then 1 else 0) = J 1) = True := by
  by_cases h : c
  · rw [if_pos h]
    simp
  · rw [if_neg h]
    simp
theorem De.stepk {f : Nat → xO} {r : xR} {P : xH} (k : Nat) (h : De (fun n => f (n + k)) r P) : De f r P := by
  obtain ⟨n0, h⟩ := h
  refine ⟨n0 + k, fun n hn => ?_⟩
  obtain ⟨j, rfl⟩ : ∃ j, n = j + k := ⟨n - k, by omega⟩
  exact h j (by omega)
theorem Dq.stepk {f : Nat → xO} {Q : xR → xH → Prop} (k : Nat) (h : Dq (fun n => f (n + k)) Q) : Dq f Q := by
  obtain ⟨r, P, h, hQ⟩ := h
  exact ⟨r, P, h.stepk k, hQ⟩
theorem De.eq {f : Nat → xO} {r : xR} {P : xH} (k : Nat) (h : ∀ n, f (n + k) = some (r, P)) : De f r P := ⟨k, fun n hn => by
  obtain ⟨j, rfl⟩ : ∃ j, n = j + k := ⟨n - k, by omega⟩
  exact h j⟩
section LEAF
variable {S : xH} {m : Nat → Int → Int} {q : Nat → Int → Int64}
theorem e_copyAt (n : Nat) (p w k : Int) (P : xH) : f_X11_copyAt (n + 1) 0 [.int (J p), .int (J w), .int (J k)] P = some (.inl (some (.int (J (51 + 7 * (30 * p + w) + k)))), P) := by
  simp only [j_X11_copyAt_0, b_X11_copyAt_0, Option.bind_some, xI, xU, J_lit, J_add, J_sub, J_mul, J_neg]
theorem e_phoneAt (n : Nat) (p k : Int) (P : xH) : f_X11_phoneAt (n + 1) 0 [.int (J p), .int (J k)] P = some (.inl (some (.int (J (1 + 5 * p + k)))), P) := by
  simp only [j_X11_phoneAt_0, b_X11_phoneAt_0, Option.bind_some, xI, xU, J_lit, J_add, J_sub, J_mul, J_neg]
theorem e_hadAt (n : Nat) (w k : Int) (P : xH) : f_X11_hadAt (n + 1) 0 [.int (J w), .int (J k)] P = some (.inl (some (.int (J (2151 + 5 * w + k)))), P) := by
  simp only [j_X11_hadAt_0, b_X11_hadAt_0, Option.bind_some, xI, xU, J_lit, J_add, J_sub, J_mul, J_neg]
theorem e_ruleAt (n : Nat) (k : Int) (P : xH) : f_X11_ruleAt (n + 1) 0 [.int (J k)] P = some (.inl (some (.int (J (4239 + 841 * k)))), P) := by
  simp only [j_X11_ruleAt_0, b_X11_ruleAt_0, Option.bind_some, xI, xU, J_lit, J_add, J_sub, J_mul, J_neg]
theorem e_lineAt (n : Nat) (k l : Int) (P : xH) : f_X11_lineAt (n + 2) 0 [.int (J k), .int (J l)] P = some (.inl (some (.int (J (4239 + 841 * k + 1 + 4 * l)))), P) := by
  simp only [j_X11_lineAt_0, b_X11_lineAt_0, e_ruleAt, Option.bind_some, xI, xU, J_lit, J_add, J_sub, J_mul, J_neg]
theorem e_tick (h : Sk S) (n : Nat) : f_X11_tick (n + 1) 0 [.ref 136] (hp S m q) = some (.inl (some (.int (J (m 137 0)))), hp S m q) := by
  simp (disch := omega) only [j_X11_tick_0, b_X11_tick_0, x136_k h, x136_i0 h, x136_w0 h, x136_r1 h, x136_r2 h, x136_r3 h, x136_r4 h, x136_i5 h, x136_w5 h, x136_i6 h, x136_w6 h, x136_i7 h, x136_w7 h, x136_r8 h, x136_i9 h, x136_w9 h, x136_i10 h, x136_w10 h, x136_i11 h, x136_w11 h, x136_i12 h, x136_w12 h, x136_i13 h, x136_w13 h, x136_i14 h, x136_w14 h, x136_r15 h, x136_i16 h, x136_w16 h, x136_r17 h, x136_r18 h, x136_r19 h, x136_r20 h, x136_r21 h, x136_i22 h, x136_w22 h, x136_r23 h, x136_r24 h, x136_i25 h, x136_w25 h, x136_i26 h, x136_w26 h, x136_r27 h, x136_r28 h, x136_i29 h, x136_w29 h, x137_g h, x137_s h, x137_l h, Option.bind_some, xI, xU, J_lit, J_add, J_sub, J_mul, J_neg]
theorem e_phones (h : Sk S) (n : Nat) : f_X11_phones (n + 1) 0 [.ref 136] (hp S m q) = some (.inl (some (.int (J (m 139 0)))), hp S m q) := by
  simp (disch := omega) only [j_X11_phones_0, b_X11_phones_0, x136_k h, x136_i0 h, x136_w0 h, x136_r1 h, x136_r2 h, x136_r3 h, x136_r4 h, x136_i5 h, x136_w5 h, x136_i6 h, x136_w6 h, x136_i7 h, x136_w7 h, x136_r8 h, x136_i9 h, x136_w9 h, x136_i10 h, x136_w10 h, x136_i11 h, x136_w11 h, x136_i12 h, x136_w12 h, x136_i13 h, x136_w13 h, x136_i14 h, x136_w14 h, x136_r15 h, x136_i16 h, x136_w16 h, x136_r17 h, x136_r18 h, x136_r19 h, x136_r20 h, x136_r21 h, x136_i22 h, x136_w22 h, x136_r23 h, x136_r24 h, x136_i25 h, x136_w25 h, x136_i26 h, x136_w26 h, x136_r27 h, x136_r28 h, x136_i29 h, x136_w29 h, x139_g h, x139_s h, x139_l h, Option.bind_some, xI, xU, J_lit, J_add, J_sub, J_mul, J_neg]
theorem e_words (h : Sk S) (n : Nat) : f_X11_words (n + 1) 0 [.ref 136] (hp S m q) = some (.inl (some (.int (J (m 139 1)))), hp S m q) := by
  simp (disch := omega) only [j_X11_words_0, b_X11_words_0, x136_k h, x136_i0 h, x136_w0 h, x136_r1 h, x136_r2 h, x136_r3 h, x136_r4 h, x136_i5 h, x136_w5 h, x136_i6 h, x136_w6 h, x136_i7 h, x136_w7 h, x136_r8 h, x136_i9 h, x136_w9 h, x136_i10 h, x136_w10 h, x136_i11 h, x136_w11 h, x136_i12 h, x136_w12 h, x136_i13 h, x136_w13 h, x136_i14 h, x136_w14 h, x136_r15 h, x136_i16 h, x136_w16 h, x136_r17 h, x136_r18 h, x136_r19 h, x136_r20 h, x136_r21 h, x136_i22 h, x136_w22 h, x136_r23 h, x136_r24 h, x136_i25 h, x136_w25 h, x136_i26 h, x136_w26 h, x136_r27 h, x136_r28 h, x136_i29 h, x136_w29 h, x139_g h, x139_s h, x139_l h, Option.bind_some, xI, xU, J_lit, J_add, J_sub, J_mul, J_neg]
theorem e_of (h : Sk S) {w k : Int} (w0 : 0 ≤ w) (w1 : w < 30) (k0 : 0 ≤ k) (k1 : k < 10) (n : Nat) : f_X11_of (n + 1) 0 [.ref 136, .int (J w), .int (J k)] (hp S m q) = some (.inl (some (.int (J (m 139 (761 + 10 * w + k))))), hp S m q) := by
  simp (disch := omega) only [j_X11_of_0, b_X11_of_0, x136_k h, x136_i0 h, x136_w0 h, x136_r1 h, x136_r2 h, x136_r3 h, x136_r4 h, x136_i5 h, x136_w5 h, x136_i6 h, x136_w6 h, x136_i7 h, x136_w7 h, x136_r8 h, x136_i9 h, x136_w9 h, x136_i10 h, x136_w10 h, x136_i11 h, x136_w11 h, x136_i12 h, x136_w12 h, x136_i13 h, x136_w13 h, x136_i14 h, x136_w14 h, x136_r15 h, x136_i16 h, x136_w16 h, x136_r17 h, x136_r18 h, x136_r19 h, x136_r20 h, x136_r21 h, x136_i22 h, x136_w22 h, x136_r23 h, x136_r24 h, x136_i25 h, x136_w25 h, x136_i26 h, x136_w26 h, x136_r27 h, x136_r28 h, x136_i29 h, x136_w29 h, x139_g h, x139_s h, x139_l h, Option.bind_some, xI, xU, J_lit, J_add, J_sub, J_mul, J_neg]
theorem e_toldOf (h : Sk S) {p k : Int} (w0 : 0 ≤ p) (w1 : p < 10) (k0 : 0 ≤ k) (k1 : k < 3) (n : Nat) : f_X11_toldOf (n + 1) 0 [.ref 136, .int (J p), .int (J k)] (hp S m q) = some (.inl (some (.int (J (m 139 (11 + 3 * p + k))))), hp S m q) := by
  simp (disch := omega) only [j_X11_toldOf_0, b_X11_toldOf_0, x136_k h, x136_i0 h, x136_w0 h, x136_r1 h, x136_r2 h, x136_r3 h, x136_r4 h, x136_i5 h, x136_w5 h, x136_i6 h, x136_w6 h, x136_i7 h, x136_w7 h, x136_r8 h, x136_i9 h, x136_w9 h, x136_i10 h, x136_w10 h, x136_i11 h, x136_w11 h, x136_i12 h, x136_w12 h, x136_i13 h, x136_w13 h, x136_i14 h, x136_w14 h, x136_r15 h, x136_i16 h, x136_w16 h, x136_r17 h, x136_r18 h, x136_r19 h, x136_r20 h, x136_r21 h, x136_i22 h, x136_w22 h, x136_r23 h, x136_r24 h, x136_i25 h, x136_w25 h, x136_i26 h, x136_w26 h, x136_r27 h, x136_r28 h, x136_i29 h, x136_w29 h, x139_g h, x139_s h, x139_l h, Option.bind_some, xI, xU, J_lit, J_add, J_sub, J_mul, J_neg]
theorem e_in (n : Nat) {x lo hi : Int} (x0 : -2147483648 ≤ x) (x1 : x < 2147483648) (l0 : -2147483648 ≤ lo) (l1 : lo < 2147483648) (h0 : -2147483648 ≤ hi) (h1 : hi < 2147483648) (P : xH) : f_X11_in (n + 1) 0 [.int (J x), .int (J lo), .int (J hi)] P = some (.inl (some (.int (J (if lo ≤ x ∧ x ≤ hi then 1 else 0)))), P) := by
  simp (disch := omega) only [j_X11_in_0, b_X11_in_0, Option.bind_some, xI, xU, J_lit, J_add, J_sub, J_mul, J_neg, J_lt, J_le, J_eq, J_ite0, J_ite1, J_ite01, ite_not]
  by_cases c1 : x < lo
  · rw [if_pos c1, if_neg (fun z => by omega)]
  · rw [if_neg c1]
    by_cases c2 : hi < x
    · rw [if_pos c2, if_neg (fun z => by omega)]
    · rw [if_neg c2, if_pos (by omega)]
theorem e_thrown (h : Sk S) (n : Nat) : f_X11_thrown (n + 1) 0 [.ref 136] (hp S m q) = some (.inl (some (.int (J (m 136 0)))), hp S m q) := by
  simp (disch := omega) only [j_X11_thrown_0, b_X11_thrown_0, x136_k h, x136_i0 h, x136_w0 h, x136_r1 h, x136_r2 h, x136_r3 h, x136_r4 h, x136_i5 h, x136_w5 h, x136_i6 h, x136_w6 h, x136_i7 h, x136_w7 h, x136_r8 h, x136_i9 h, x136_w9 h, x136_i10 h, x136_w10 h, x136_i11 h, x136_w11 h, x136_i12 h, x136_w12 h, x136_i13 h, x136_w13 h, x136_i14 h, x136_w14 h, x136_r15 h, x136_i16 h, x136_w16 h, x136_r17 h, x136_r18 h, x136_r19 h, x136_r20 h, x136_r21 h, x136_i22 h, x136_w22 h, x136_r23 h, x136_r24 h, x136_i25 h, x136_w25 h, x136_i26 h, x136_w26 h, x136_r27 h, x136_r28 h, x136_i29 h, x136_w29 h, Option.bind_some, xI, xU, J_lit, J_add, J_sub, J_mul, J_neg]
theorem e_noPlace (n : Nat) {x : Int} (x0 : -2147483648 ≤ x) (x1 : x < 2147483648) (P : xH) : f_X11_noPlace (n + 2) 0 [.int (J x)] P = some (.inl (some (.int (J (if 0 ≤ x ∧ x ≤ 15 then 0 else 1)))), P) := by
  simp (disch := omega) only [j_X11_noPlace_0, b_X11_noPlace_0, e_in, Option.bind_some, xI, xU, J_lit, J_add, J_sub, J_mul, J_neg, J_lt, J_le, J_eq, J_ite0, J_ite1, J_ite01, ite_not]
  split <;> rfl
theorem e_noPerson (n : Nat) {x : Int} (x0 : -2147483648 ≤ x) (x1 : x < 2147483648) (P : xH) : f_X11_noPerson (n + 2) 0 [.int (J x)] P = some (.inl (some (.int (J (if 0 ≤ x ∧ x ≤ 15 then 0 else 1)))), P) := by
  simp (disch := omega) only [j_X11_noPerson_0, b_X11_noPerson_0, e_in, Option.bind_some, xI, xU, J_lit, J_add, J_sub, J_mul, J_neg, J_lt, J_le, J_eq, J_ite0, J_ite1, J_ite01, ite_not]
  split <;> rfl
theorem e_has (h : Sk S) {p w : Int} (p0 : 0 ≤ p) (p1 : p < 10) (w0 : 0 ≤ w) (w1 : w < 30) (v0 : 0 ≤ m 137 (51 + 7 * (30 * p + w) + 0)) (v1 : m 137 (51 + 7 * (30 * p + w) + 0) ≤ 1) (n : Nat) : f_X11_has (n + 2) 0 [.ref 136, .int (J p), .int (J w)] (hp S m q) = some (.inl (some (.int (J (if m 137 (51 + 7 * (30 * p + w) + 0) = 1 then 1 else 0)))), hp S m q) := by
  simp (disch := omega) only [j_X11_has_0, b_X11_has_0, e_copyAt, x136_k h, x136_i0 h, x136_w0 h, x136_r1 h, x136_r2 h, x136_r3 h, x136_r4 h, x136_i5 h, x136_w5 h, x136_i6 h, x136_w6 h, x136_i7 h, x136_w7 h, x136_r8 h, x136_i9 h, x136_w9 h, x136_i10 h, x136_w10 h, x136_i11 h, x136_w11 h, x136_i12 h, x136_w12 h, x136_i13 h, x136_w13 h, x136_i14 h, x136_w14 h, x136_r15 h, x136_i16 h, x136_w16 h, x136_r17 h, x136_r18 h, x136_r19 h, x136_r20 h, x136_r21 h, x136_i22 h, x136_w22 h, x136_r23 h, x136_r24 h, x136_i25 h, x136_w25 h, x136_i26 h, x136_w26 h, x136_r27 h, x136_r28 h, x136_i29 h, x136_w29 h, x137_g h, x137_s h, x137_l h, Option.bind_some, xI, xU, J_lit, J_add, J_sub, J_mul, J_neg, J_lt, J_le, J_eq, J_ite0, J_ite1, J_ite01, ite_not]
  split <;> rfl
end LEAF
