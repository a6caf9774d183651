/-! the skeleton: what a read and a write of it does -/
def Sk (S : xH) : Prop := (∀ j, 0 < j → j < 153 → j ≠ 111 → S.2.2 j = sOf j) ∧ (∃ v : Value, S.2.2 0 = .inr (10, [.ref 1, .ref 9, .ref 111, .ref 133, v])) ∧ (∃ r, (r = 2 ∨ r = 10) ∧ S.2.2 111 = .inr (1, [.ref 16, .ref r, .int 0, .int 0, .int 0, .ref 112, .ref 121, .ref 126, .ref 127, .ref 128, .ref 129, .ref 130, .ref 131, .ref 132, .int 0, .int 0, .int 0]))
theorem Sk.at {S : xH} (h : Sk S) (j : Nat) (h1 : 0 < j := by decide) (h2 : j < 153 := by decide) (h3 : j ≠ 111 := by decide) : S.2.2 j = sOf j := h.1 j h1 h2 h3
section SKX
variable {S : xH} {m : Nat → Int → Int} {q : Nat → Int → Int64} {i x : Int}
theorem x1_k (h : Sk S) : kO (hp S m q) 1 3 = some () := kO_hp (h.at 1)
theorem x1_r0 (h : Sk S) : rA (hp S m q) 1 3 0 = some 2 := rA_hp (h.at 1) rfl
theorem x1_r1 (h : Sk S) : rA (hp S m q) 1 3 1 = some 8 := rA_hp (h.at 1) rfl
theorem x1_i2 (h : Sk S) : rI (hp S m q) 1 3 2 = some (J (m 1 2)) := rI_hp (h.at 1) rfl
theorem x1_w2 (h : Sk S) : wV (hp S m q) 1 3 2 (.int (J x)) = some (hp S (up m 1 2 x) q) := wV_hp (h.at 1) rfl
theorem x1_i3 (h : Sk S) : rI (hp S m q) 1 3 3 = some (J (m 1 3)) := rI_hp (h.at 1) rfl
theorem x1_w3 (h : Sk S) : wV (hp S m q) 1 3 3 (.int (J x)) = some (hp S (up m 1 3 x) q) := wV_hp (h.at 1) rfl
theorem x1_i4 (h : Sk S) : rI (hp S m q) 1 3 4 = some (J (m 1 4)) := rI_hp (h.at 1) rfl
theorem x1_w4 (h : Sk S) : wV (hp S m q) 1 3 4 (.int (J x)) = some (hp S (up m 1 4 x) q) := wV_hp (h.at 1) rfl
theorem x1_i5 (h : Sk S) : rI (hp S m q) 1 3 5 = some (J (m 1 5)) := rI_hp (h.at 1) rfl
theorem x1_w5 (h : Sk S) : wV (hp S m q) 1 3 5 (.int (J x)) = some (hp S (up m 1 5 x) q) := wV_hp (h.at 1) rfl
theorem x1_i6 (h : Sk S) : rI (hp S m q) 1 3 6 = some (J (m 1 6)) := rI_hp (h.at 1) rfl
theorem x1_w6 (h : Sk S) : wV (hp S m q) 1 3 6 (.int (J x)) = some (hp S (up m 1 6 x) q) := wV_hp (h.at 1) rfl
theorem x1_i7 (h : Sk S) : rI (hp S m q) 1 3 7 = some (J (m 1 7)) := rI_hp (h.at 1) rfl
theorem x1_w7 (h : Sk S) : wV (hp S m q) 1 3 7 (.int (J x)) = some (hp S (up m 1 7 x) q) := wV_hp (h.at 1) rfl
theorem x2_k (h : Sk S) : kO (hp S m q) 2 5 = some () := kO_hp (h.at 2)
theorem x2_r0 (h : Sk S) : rA (hp S m q) 2 5 0 = some 3 := rA_hp (h.at 2) rfl
theorem x2_r1 (h : Sk S) : rA (hp S m q) 2 5 1 = some 4 := rA_hp (h.at 2) rfl
theorem x2_r2 (h : Sk S) : rA (hp S m q) 2 5 2 = some 5 := rA_hp (h.at 2) rfl
theorem x2_i3 (h : Sk S) : rI (hp S m q) 2 5 3 = some (J (m 2 3)) := rI_hp (h.at 2) rfl
theorem x2_w3 (h : Sk S) : wV (hp S m q) 2 5 3 (.int (J x)) = some (hp S (up m 2 3 x) q) := wV_hp (h.at 2) rfl
theorem x2_r4 (h : Sk S) : rA (hp S m q) 2 5 4 = some 6 := rA_hp (h.at 2) rfl
theorem x2_i5 (h : Sk S) : rI (hp S m q) 2 5 5 = some (J (m 2 5)) := rI_hp (h.at 2) rfl
theorem x2_w5 (h : Sk S) : wV (hp S m q) 2 5 5 (.int (J x)) = some (hp S (up m 2 5 x) q) := wV_hp (h.at 2) rfl
theorem x2_r6 (h : Sk S) : rA (hp S m q) 2 5 6 = some 7 := rA_hp (h.at 2) rfl
theorem x2_i7 (h : Sk S) : rI (hp S m q) 2 5 7 = some (J (m 2 7)) := rI_hp (h.at 2) rfl
theorem x2_w7 (h : Sk S) : wV (hp S m q) 2 5 7 (.int (J x)) = some (hp S (up m 2 7 x) q) := wV_hp (h.at 2) rfl
theorem x3_g (h : Sk S) (h0 : 0 ≤ i) (h1 : i < 10) : aI (hp S m q) 3 (J i) = some (J (m 3 i)) := aI_hp (h.at 3) (by decide) h0 h1
theorem x3_s (h : Sk S) (h0 : 0 ≤ i) (h1 : i < 10) : sI (hp S m q) 3 (J i) (J x) = some (hp S (up m 3 i x) q) := sI_hp (h.at 3) (by decide) h0 h1
theorem x3_l (h : Sk S) : aL (hp S m q) 3 = some (J 10) := aL_hp (h.at 3)
theorem x4_g (h : Sk S) (h0 : 0 ≤ i) (h1 : i < 10) : aI (hp S m q) 4 (J i) = some (J (m 4 i)) := aI_hp (h.at 4) (by decide) h0 h1
theorem x4_s (h : Sk S) (h0 : 0 ≤ i) (h1 : i < 10) : sI (hp S m q) 4 (J i) (J x) = some (hp S (up m 4 i x) q) := sI_hp (h.at 4) (by decide) h0 h1
theorem x4_l (h : Sk S) : aL (hp S m q) 4 = some (J 10) := aL_hp (h.at 4)
theorem x5_g (h : Sk S) (h0 : 0 ≤ i) (h1 : i < 11) : aI (hp S m q) 5 (J i) = some (J (m 5 i)) := aI_hp (h.at 5) (by decide) h0 h1
theorem x5_s (h : Sk S) (h0 : 0 ≤ i) (h1 : i < 11) : sI (hp S m q) 5 (J i) (J x) = some (hp S (up m 5 i x) q) := sI_hp (h.at 5) (by decide) h0 h1
theorem x5_l (h : Sk S) : aL (hp S m q) 5 = some (J 11) := aL_hp (h.at 5)
theorem x6_g (h : Sk S) (h0 : 0 ≤ i) (h1 : i < 200) : aI (hp S m q) 6 (J i) = some (J (m 6 i)) := aI_hp (h.at 6) (by decide) h0 h1
theorem x6_s (h : Sk S) (h0 : 0 ≤ i) (h1 : i < 200) : sI (hp S m q) 6 (J i) (J x) = some (hp S (up m 6 i x) q) := sI_hp (h.at 6) (by decide) h0 h1
theorem x6_l (h : Sk S) : aL (hp S m q) 6 = some (J 200) := aL_hp (h.at 6)
theorem x7_g (h : Sk S) (h0 : 0 ≤ i) (h1 : i < 5) : aI (hp S m q) 7 (J i) = some (J (m 7 i)) := aI_hp (h.at 7) (by decide) h0 h1
theorem x7_s (h : Sk S) (h0 : 0 ≤ i) (h1 : i < 5) : sI (hp S m q) 7 (J i) (J x) = some (hp S (up m 7 i x) q) := sI_hp (h.at 7) (by decide) h0 h1
theorem x7_l (h : Sk S) : aL (hp S m q) 7 = some (J 5) := aL_hp (h.at 7)
theorem x8_g (h : Sk S) (h0 : 0 ≤ i) (h1 : i < 400) : aB (hp S m q) 8 (J i) = some (J (m 8 i)) := aB_hp (h.at 8) (by decide) h0 h1
theorem x8_s (h : Sk S) (h0 : 0 ≤ i) (h1 : i < 400) : sB (hp S m q) 8 (J i) (J x) = some (hp S (up m 8 i (b8 x)) q) := sB_hp (h.at 8) (by decide) h0 h1
theorem x8_l (h : Sk S) : aL (hp S m q) 8 = some (J 400) := aLB_hp (h.at 8)
theorem x9_k (h : Sk S) : kO (hp S m q) 9 7 = some () := kO_hp (h.at 9)
theorem x9_r0 (h : Sk S) : rA (hp S m q) 9 7 0 = some 10 := rA_hp (h.at 9) rfl
theorem x9_r1 (h : Sk S) : rA (hp S m q) 9 7 1 = some 16 := rA_hp (h.at 9) rfl
theorem x9_r2 (h : Sk S) : rA (hp S m q) 9 7 2 = some 29 := rA_hp (h.at 9) rfl
theorem x9_r3 (h : Sk S) : rA (hp S m q) 9 7 3 = some 46 := rA_hp (h.at 9) rfl
theorem x9_r4 (h : Sk S) : rA (hp S m q) 9 7 4 = some 68 := rA_hp (h.at 9) rfl
theorem x9_r5 (h : Sk S) : rA (hp S m q) 9 7 5 = some 90 := rA_hp (h.at 9) rfl
theorem x9_r6 (h : Sk S) : rA (hp S m q) 9 7 6 = some 93 := rA_hp (h.at 9) rfl
theorem x9_r7 (h : Sk S) : rA (hp S m q) 9 7 7 = some 99 := rA_hp (h.at 9) rfl
theorem x9_i8 (h : Sk S) : rI (hp S m q) 9 7 8 = some (J (m 9 8)) := rI_hp (h.at 9) rfl
theorem x9_w8 (h : Sk S) : wV (hp S m q) 9 7 8 (.int (J x)) = some (hp S (up m 9 8 x) q) := wV_hp (h.at 9) rfl
theorem x9_i9 (h : Sk S) : rI (hp S m q) 9 7 9 = some (J (m 9 9)) := rI_hp (h.at 9) rfl
theorem x9_w9 (h : Sk S) : wV (hp S m q) 9 7 9 (.int (J x)) = some (hp S (up m 9 9 x) q) := wV_hp (h.at 9) rfl
theorem x10_k (h : Sk S) : kO (hp S m q) 10 5 = some () := kO_hp (h.at 10)
theorem x10_r0 (h : Sk S) : rA (hp S m q) 10 5 0 = some 11 := rA_hp (h.at 10) rfl
theorem x10_r1 (h : Sk S) : rA (hp S m q) 10 5 1 = some 12 := rA_hp (h.at 10) rfl
theorem x10_r2 (h : Sk S) : rA (hp S m q) 10 5 2 = some 13 := rA_hp (h.at 10) rfl
theorem x10_i3 (h : Sk S) : rI (hp S m q) 10 5 3 = some (J (m 10 3)) := rI_hp (h.at 10) rfl
theorem x10_w3 (h : Sk S) : wV (hp S m q) 10 5 3 (.int (J x)) = some (hp S (up m 10 3 x) q) := wV_hp (h.at 10) rfl
theorem x10_r4 (h : Sk S) : rA (hp S m q) 10 5 4 = some 14 := rA_hp (h.at 10) rfl
theorem x10_i5 (h : Sk S) : rI (hp S m q) 10 5 5 = some (J (m 10 5)) := rI_hp (h.at 10) rfl
theorem x10_w5 (h : Sk S) : wV (hp S m q) 10 5 5 (.int (J x)) = some (hp S (up m 10 5 x) q) := wV_hp (h.at 10) rfl
theorem x10_r6 (h : Sk S) : rA (hp S m q) 10 5 6 = some 15 := rA_hp (h.at 10) rfl
theorem x10_i7 (h : Sk S) : rI (hp S m q) 10 5 7 = some (J (m 10 7)) := rI_hp (h.at 10) rfl
theorem x10_w7 (h : Sk S) : wV (hp S m q) 10 5 7 (.int (J x)) = some (hp S (up m 10 7 x) q) := wV_hp (h.at 10) rfl
theorem x11_g (h : Sk S) (h0 : 0 ≤ i) (h1 : i < 10) : aI (hp S m q) 11 (J i) = some (J (m 11 i)) := aI_hp (h.at 11) (by decide) h0 h1
theorem x11_s (h : Sk S) (h0 : 0 ≤ i) (h1 : i < 10) : sI (hp S m q) 11 (J i) (J x) = some (hp S (up m 11 i x) q) := sI_hp (h.at 11) (by decide) h0 h1
theorem x11_l (h : Sk S) : aL (hp S m q) 11 = some (J 10) := aL_hp (h.at 11)
theorem x12_g (h : Sk S) (h0 : 0 ≤ i) (h1 : i < 10) : aI (hp S m q) 12 (J i) = some (J (m 12 i)) := aI_hp (h.at 12) (by decide) h0 h1
theorem x12_s (h : Sk S) (h0 : 0 ≤ i) (h1 : i < 10) : sI (hp S m q) 12 (J i) (J x) = some (hp S (up m 12 i x) q) := sI_hp (h.at 12) (by decide) h0 h1
theorem x12_l (h : Sk S) : aL (hp S m q) 12 = some (J 10) := aL_hp (h.at 12)
theorem x13_g (h : Sk S) (h0 : 0 ≤ i) (h1 : i < 11) : aI (hp S m q) 13 (J i) = some (J (m 13 i)) := aI_hp (h.at 13) (by decide) h0 h1
theorem x13_s (h : Sk S) (h0 : 0 ≤ i) (h1 : i < 11) : sI (hp S m q) 13 (J i) (J x) = some (hp S (up m 13 i x) q) := sI_hp (h.at 13) (by decide) h0 h1
theorem x13_l (h : Sk S) : aL (hp S m q) 13 = some (J 11) := aL_hp (h.at 13)
theorem x14_g (h : Sk S) (h0 : 0 ≤ i) (h1 : i < 200) : aI (hp S m q) 14 (J i) = some (J (m 14 i)) := aI_hp (h.at 14) (by decide) h0 h1
theorem x14_s (h : Sk S) (h0 : 0 ≤ i) (h1 : i < 200) : sI (hp S m q) 14 (J i) (J x) = some (hp S (up m 14 i x) q) := sI_hp (h.at 14) (by decide) h0 h1
theorem x14_l (h : Sk S) : aL (hp S m q) 14 = some (J 200) := aL_hp (h.at 14)
theorem x15_g (h : Sk S) (h0 : 0 ≤ i) (h1 : i < 5) : aI (hp S m q) 15 (J i) = some (J (m 15 i)) := aI_hp (h.at 15) (by decide) h0 h1
theorem x15_s (h : Sk S) (h0 : 0 ≤ i) (h1 : i < 5) : sI (hp S m q) 15 (J i) (J x) = some (hp S (up m 15 i x) q) := sI_hp (h.at 15) (by decide) h0 h1
theorem x15_l (h : Sk S) : aL (hp S m q) 15 = some (J 5) := aL_hp (h.at 15)
theorem x16_k (h : Sk S) : kO (hp S m q) 16 9 = some () := kO_hp (h.at 16)
theorem x16_r0 (h : Sk S) : rA (hp S m q) 16 9 0 = some 17 := rA_hp (h.at 16) rfl
theorem x16_r1 (h : Sk S) : rA (hp S m q) 16 9 1 = some 27 := rA_hp (h.at 16) rfl
theorem x16_r2 (h : Sk S) : rA (hp S m q) 16 9 2 = some 28 := rA_hp (h.at 16) rfl
theorem x16_i3 (h : Sk S) : rI (hp S m q) 16 9 3 = some (J (m 16 3)) := rI_hp (h.at 16) rfl
theorem x16_w3 (h : Sk S) : wV (hp S m q) 16 9 3 (.int (J x)) = some (hp S (up m 16 3 x) q) := wV_hp (h.at 16) rfl
theorem x17_m (h : Sk S) (h0 : 0 ≤ i) (h1 : i < 9) : aA (hp S m q) 17 (J i) = some (17 + 1 + i.toNat) := aA_hp (h.at 17) (by decide) h0 h1
theorem x17_l (h : Sk S) : aL (hp S m q) 17 = some (J 9) := aLM_hp (h.at 17)
theorem x17_m0 (h : Sk S) : aA (hp S m q) 17 (J 0) = some 18 := aA_hp (i := 0) (h.at 17) (by decide) (by decide) (by decide)
theorem x17_m1 (h : Sk S) : aA (hp S m q) 17 (J 1) = some 19 := aA_hp (i := 1) (h.at 17) (by decide) (by decide) (by decide)
theorem x17_m2 (h : Sk S) : aA (hp S m q) 17 (J 2) = some 20 := aA_hp (i := 2) (h.at 17) (by decide) (by decide) (by decide)
theorem x17_m3 (h : Sk S) : aA (hp S m q) 17 (J 3) = some 21 := aA_hp (i := 3) (h.at 17) (by decide) (by decide) (by decide)
theorem x17_m4 (h : Sk S) : aA (hp S m q) 17 (J 4) = some 22 := aA_hp (i := 4) (h.at 17) (by decide) (by decide) (by decide)
theorem x17_m5 (h : Sk S) : aA (hp S m q) 17 (J 5) = some 23 := aA_hp (i := 5) (h.at 17) (by decide) (by decide) (by decide)
theorem x17_m6 (h : Sk S) : aA (hp S m q) 17 (J 6) = some 24 := aA_hp (i := 6) (h.at 17) (by decide) (by decide) (by decide)
theorem x17_m7 (h : Sk S) : aA (hp S m q) 17 (J 7) = some 25 := aA_hp (i := 7) (h.at 17) (by decide) (by decide) (by decide)
theorem x17_m8 (h : Sk S) : aA (hp S m q) 17 (J 8) = some 26 := aA_hp (i := 8) (h.at 17) (by decide) (by decide) (by decide)
theorem x18_g (h : Sk S) (h0 : 0 ≤ i) (h1 : i < 30) : aI (hp S m q) 18 (J i) = some (J (m 18 i)) := aI_hp (h.at 18) (by decide) h0 h1
theorem x18_s (h : Sk S) (h0 : 0 ≤ i) (h1 : i < 30) : sI (hp S m q) 18 (J i) (J x) = some (hp S (up m 18 i x) q) := sI_hp (h.at 18) (by decide) h0 h1
theorem x18_l (h : Sk S) : aL (hp S m q) 18 = some (J 30) := aL_hp (h.at 18)
theorem x19_g (h : Sk S) (h0 : 0 ≤ i) (h1 : i < 30) : aI (hp S m q) 19 (J i) = some (J (m 19 i)) := aI_hp (h.at 19) (by decide) h0 h1
theorem x19_s (h : Sk S) (h0 : 0 ≤ i) (h1 : i < 30) : sI (hp S m q) 19 (J i) (J x) = some (hp S (up m 19 i x) q) := sI_hp (h.at 19) (by decide) h0 h1
theorem x19_l (h : Sk S) : aL (hp S m q) 19 = some (J 30) := aL_hp (h.at 19)
theorem x20_g (h : Sk S) (h0 : 0 ≤ i) (h1 : i < 30) : aI (hp S m q) 20 (J i) = some (J (m 20 i)) := aI_hp (h.at 20) (by decide) h0 h1
theorem x20_s (h : Sk S) (h0 : 0 ≤ i) (h1 : i < 30) : sI (hp S m q) 20 (J i) (J x) = some (hp S (up m 20 i x) q) := sI_hp (h.at 20) (by decide) h0 h1
theorem x20_l (h : Sk S) : aL (hp S m q) 20 = some (J 30) := aL_hp (h.at 20)
theorem x21_g (h : Sk S) (h0 : 0 ≤ i) (h1 : i < 30) : aI (hp S m q) 21 (J i) = some (J (m 21 i)) := aI_hp (h.at 21) (by decide) h0 h1
theorem x21_s (h : Sk S) (h0 : 0 ≤ i) (h1 : i < 30) : sI (hp S m q) 21 (J i) (J x) = some (hp S (up m 21 i x) q) := sI_hp (h.at 21) (by decide) h0 h1
theorem x21_l (h : Sk S) : aL (hp S m q) 21 = some (J 30) := aL_hp (h.at 21)
theorem x22_g (h : Sk S) (h0 : 0 ≤ i) (h1 : i < 30) : aI (hp S m q) 22 (J i) = some (J (m 22 i)) := aI_hp (h.at 22) (by decide) h0 h1
theorem x22_s (h : Sk S) (h0 : 0 ≤ i) (h1 : i < 30) : sI (hp S m q) 22 (J i) (J x) = some (hp S (up m 22 i x) q) := sI_hp (h.at 22) (by decide) h0 h1
theorem x22_l (h : Sk S) : aL (hp S m q) 22 = some (J 30) := aL_hp (h.at 22)
theorem x23_g (h : Sk S) (h0 : 0 ≤ i) (h1 : i < 30) : aI (hp S m q) 23 (J i) = some (J (m 23 i)) := aI_hp (h.at 23) (by decide) h0 h1
theorem x23_s (h : Sk S) (h0 : 0 ≤ i) (h1 : i < 30) : sI (hp S m q) 23 (J i) (J x) = some (hp S (up m 23 i x) q) := sI_hp (h.at 23) (by decide) h0 h1
theorem x23_l (h : Sk S) : aL (hp S m q) 23 = some (J 30) := aL_hp (h.at 23)
theorem x24_g (h : Sk S) (h0 : 0 ≤ i) (h1 : i < 30) : aI (hp S m q) 24 (J i) = some (J (m 24 i)) := aI_hp (h.at 24) (by decide) h0 h1
theorem x24_s (h : Sk S) (h0 : 0 ≤ i) (h1 : i < 30) : sI (hp S m q) 24 (J i) (J x) = some (hp S (up m 24 i x) q) := sI_hp (h.at 24) (by decide) h0 h1
theorem x24_l (h : Sk S) : aL (hp S m q) 24 = some (J 30) := aL_hp (h.at 24)
theorem x25_g (h : Sk S) (h0 : 0 ≤ i) (h1 : i < 30) : aI (hp S m q) 25 (J i) = some (J (m 25 i)) := aI_hp (h.at 25) (by decide) h0 h1
theorem x25_s (h : Sk S) (h0 : 0 ≤ i) (h1 : i < 30) : sI (hp S m q) 25 (J i) (J x) = some (hp S (up m 25 i x) q) := sI_hp (h.at 25) (by decide) h0 h1
theorem x25_l (h : Sk S) : aL (hp S m q) 25 = some (J 30) := aL_hp (h.at 25)
theorem x26_g (h : Sk S) (h0 : 0 ≤ i) (h1 : i < 30) : aI (hp S m q) 26 (J i) = some (J (m 26 i)) := aI_hp (h.at 26) (by decide) h0 h1
theorem x26_s (h : Sk S) (h0 : 0 ≤ i) (h1 : i < 30) : sI (hp S m q) 26 (J i) (J x) = some (hp S (up m 26 i x) q) := sI_hp (h.at 26) (by decide) h0 h1
theorem x26_l (h : Sk S) : aL (hp S m q) 26 = some (J 30) := aL_hp (h.at 26)
theorem x27_g (h : Sk S) (h0 : 0 ≤ i) (h1 : i < 30) : aI (hp S m q) 27 (J i) = some (J (m 27 i)) := aI_hp (h.at 27) (by decide) h0 h1
theorem x27_s (h : Sk S) (h0 : 0 ≤ i) (h1 : i < 30) : sI (hp S m q) 27 (J i) (J x) = some (hp S (up m 27 i x) q) := sI_hp (h.at 27) (by decide) h0 h1
theorem x27_l (h : Sk S) : aL (hp S m q) 27 = some (J 30) := aL_hp (h.at 27)
theorem x28_g (h : Sk S) (h0 : 0 ≤ i) (h1 : i < 30) : aI (hp S m q) 28 (J i) = some (J (m 28 i)) := aI_hp (h.at 28) (by decide) h0 h1
theorem x28_s (h : Sk S) (h0 : 0 ≤ i) (h1 : i < 30) : sI (hp S m q) 28 (J i) (J x) = some (hp S (up m 28 i x) q) := sI_hp (h.at 28) (by decide) h0 h1
theorem x28_l (h : Sk S) : aL (hp S m q) 28 = some (J 30) := aL_hp (h.at 28)
theorem x29_k (h : Sk S) : kO (hp S m q) 29 8 = some () := kO_hp (h.at 29)
theorem x29_r0 (h : Sk S) : rA (hp S m q) 29 8 0 = some 30 := rA_hp (h.at 29) rfl
theorem x29_r1 (h : Sk S) : rA (hp S m q) 29 8 1 = some 35 := rA_hp (h.at 29) rfl
theorem x29_r2 (h : Sk S) : rA (hp S m q) 29 8 2 = some 40 := rA_hp (h.at 29) rfl
theorem x29_r3 (h : Sk S) : rA (hp S m q) 29 8 3 = some 45 := rA_hp (h.at 29) rfl
theorem x30_m (h : Sk S) (h0 : 0 ≤ i) (h1 : i < 4) : aA (hp S m q) 30 (J i) = some (30 + 1 + i.toNat) := aA_hp (h.at 30) (by decide) h0 h1
theorem x30_l (h : Sk S) : aL (hp S m q) 30 = some (J 4) := aLM_hp (h.at 30)
theorem x30_m0 (h : Sk S) : aA (hp S m q) 30 (J 0) = some 31 := aA_hp (i := 0) (h.at 30) (by decide) (by decide) (by decide)
theorem x30_m1 (h : Sk S) : aA (hp S m q) 30 (J 1) = some 32 := aA_hp (i := 1) (h.at 30) (by decide) (by decide) (by decide)
theorem x30_m2 (h : Sk S) : aA (hp S m q) 30 (J 2) = some 33 := aA_hp (i := 2) (h.at 30) (by decide) (by decide) (by decide)
theorem x30_m3 (h : Sk S) : aA (hp S m q) 30 (J 3) = some 34 := aA_hp (i := 3) (h.at 30) (by decide) (by decide) (by decide)
theorem x31_g (h : Sk S) (h0 : 0 ≤ i) (h1 : i < 60) : aI (hp S m q) 31 (J i) = some (J (m 31 i)) := aI_hp (h.at 31) (by decide) h0 h1
theorem x31_s (h : Sk S) (h0 : 0 ≤ i) (h1 : i < 60) : sI (hp S m q) 31 (J i) (J x) = some (hp S (up m 31 i x) q) := sI_hp (h.at 31) (by decide) h0 h1
theorem x31_l (h : Sk S) : aL (hp S m q) 31 = some (J 60) := aL_hp (h.at 31)
theorem x32_g (h : Sk S) (h0 : 0 ≤ i) (h1 : i < 60) : aI (hp S m q) 32 (J i) = some (J (m 32 i)) := aI_hp (h.at 32) (by decide) h0 h1
theorem x32_s (h : Sk S) (h0 : 0 ≤ i) (h1 : i < 60) : sI (hp S m q) 32 (J i) (J x) = some (hp S (up m 32 i x) q) := sI_hp (h.at 32) (by decide) h0 h1
theorem x32_l (h : Sk S) : aL (hp S m q) 32 = some (J 60) := aL_hp (h.at 32)
theorem x33_g (h : Sk S) (h0 : 0 ≤ i) (h1 : i < 60) : aI (hp S m q) 33 (J i) = some (J (m 33 i)) := aI_hp (h.at 33) (by decide) h0 h1
theorem x33_s (h : Sk S) (h0 : 0 ≤ i) (h1 : i < 60) : sI (hp S m q) 33 (J i) (J x) = some (hp S (up m 33 i x) q) := sI_hp (h.at 33) (by decide) h0 h1
theorem x33_l (h : Sk S) : aL (hp S m q) 33 = some (J 60) := aL_hp (h.at 33)
theorem x34_g (h : Sk S) (h0 : 0 ≤ i) (h1 : i < 60) : aI (hp S m q) 34 (J i) = some (J (m 34 i)) := aI_hp (h.at 34) (by decide) h0 h1
theorem x34_s (h : Sk S) (h0 : 0 ≤ i) (h1 : i < 60) : sI (hp S m q) 34 (J i) (J x) = some (hp S (up m 34 i x) q) := sI_hp (h.at 34) (by decide) h0 h1
theorem x34_l (h : Sk S) : aL (hp S m q) 34 = some (J 60) := aL_hp (h.at 34)
theorem x35_m (h : Sk S) (h0 : 0 ≤ i) (h1 : i < 4) : aA (hp S m q) 35 (J i) = some (35 + 1 + i.toNat) := aA_hp (h.at 35) (by decide) h0 h1
theorem x35_l (h : Sk S) : aL (hp S m q) 35 = some (J 4) := aLM_hp (h.at 35)
theorem x35_m0 (h : Sk S) : aA (hp S m q) 35 (J 0) = some 36 := aA_hp (i := 0) (h.at 35) (by decide) (by decide) (by decide)
theorem x35_m1 (h : Sk S) : aA (hp S m q) 35 (J 1) = some 37 := aA_hp (i := 1) (h.at 35) (by decide) (by decide) (by decide)
theorem x35_m2 (h : Sk S) : aA (hp S m q) 35 (J 2) = some 38 := aA_hp (i := 2) (h.at 35) (by decide) (by decide) (by decide)
theorem x35_m3 (h : Sk S) : aA (hp S m q) 35 (J 3) = some 39 := aA_hp (i := 3) (h.at 35) (by decide) (by decide) (by decide)
theorem x36_g (h : Sk S) (h0 : 0 ≤ i) (h1 : i < 60) : aI (hp S m q) 36 (J i) = some (J (m 36 i)) := aI_hp (h.at 36) (by decide) h0 h1
theorem x36_s (h : Sk S) (h0 : 0 ≤ i) (h1 : i < 60) : sI (hp S m q) 36 (J i) (J x) = some (hp S (up m 36 i x) q) := sI_hp (h.at 36) (by decide) h0 h1
theorem x36_l (h : Sk S) : aL (hp S m q) 36 = some (J 60) := aL_hp (h.at 36)
theorem x37_g (h : Sk S) (h0 : 0 ≤ i) (h1 : i < 60) : aI (hp S m q) 37 (J i) = some (J (m 37 i)) := aI_hp (h.at 37) (by decide) h0 h1
theorem x37_s (h : Sk S) (h0 : 0 ≤ i) (h1 : i < 60) : sI (hp S m q) 37 (J i) (J x) = some (hp S (up m 37 i x) q) := sI_hp (h.at 37) (by decide) h0 h1
theorem x37_l (h : Sk S) : aL (hp S m q) 37 = some (J 60) := aL_hp (h.at 37)
theorem x38_g (h : Sk S) (h0 : 0 ≤ i) (h1 : i < 60) : aI (hp S m q) 38 (J i) = some (J (m 38 i)) := aI_hp (h.at 38) (by decide) h0 h1
theorem x38_s (h : Sk S) (h0 : 0 ≤ i) (h1 : i < 60) : sI (hp S m q) 38 (J i) (J x) = some (hp S (up m 38 i x) q) := sI_hp (h.at 38) (by decide) h0 h1
theorem x38_l (h : Sk S) : aL (hp S m q) 38 = some (J 60) := aL_hp (h.at 38)
theorem x39_g (h : Sk S) (h0 : 0 ≤ i) (h1 : i < 60) : aI (hp S m q) 39 (J i) = some (J (m 39 i)) := aI_hp (h.at 39) (by decide) h0 h1
theorem x39_s (h : Sk S) (h0 : 0 ≤ i) (h1 : i < 60) : sI (hp S m q) 39 (J i) (J x) = some (hp S (up m 39 i x) q) := sI_hp (h.at 39) (by decide) h0 h1
theorem x39_l (h : Sk S) : aL (hp S m q) 39 = some (J 60) := aL_hp (h.at 39)
theorem x40_m (h : Sk S) (h0 : 0 ≤ i) (h1 : i < 4) : aA (hp S m q) 40 (J i) = some (40 + 1 + i.toNat) := aA_hp (h.at 40) (by decide) h0 h1
theorem x40_l (h : Sk S) : aL (hp S m q) 40 = some (J 4) := aLM_hp (h.at 40)
theorem x40_m0 (h : Sk S) : aA (hp S m q) 40 (J 0) = some 41 := aA_hp (i := 0) (h.at 40) (by decide) (by decide) (by decide)
theorem x40_m1 (h : Sk S) : aA (hp S m q) 40 (J 1) = some 42 := aA_hp (i := 1) (h.at 40) (by decide) (by decide) (by decide)
theorem x40_m2 (h : Sk S) : aA (hp S m q) 40 (J 2) = some 43 := aA_hp (i := 2) (h.at 40) (by decide) (by decide) (by decide)
theorem x40_m3 (h : Sk S) : aA (hp S m q) 40 (J 3) = some 44 := aA_hp (i := 3) (h.at 40) (by decide) (by decide) (by decide)
theorem x41_g (h : Sk S) (h0 : 0 ≤ i) (h1 : i < 60) : aI (hp S m q) 41 (J i) = some (J (m 41 i)) := aI_hp (h.at 41) (by decide) h0 h1
theorem x41_s (h : Sk S) (h0 : 0 ≤ i) (h1 : i < 60) : sI (hp S m q) 41 (J i) (J x) = some (hp S (up m 41 i x) q) := sI_hp (h.at 41) (by decide) h0 h1
theorem x41_l (h : Sk S) : aL (hp S m q) 41 = some (J 60) := aL_hp (h.at 41)
theorem x42_g (h : Sk S) (h0 : 0 ≤ i) (h1 : i < 60) : aI (hp S m q) 42 (J i) = some (J (m 42 i)) := aI_hp (h.at 42) (by decide) h0 h1
theorem x42_s (h : Sk S) (h0 : 0 ≤ i) (h1 : i < 60) : sI (hp S m q) 42 (J i) (J x) = some (hp S (up m 42 i x) q) := sI_hp (h.at 42) (by decide) h0 h1
theorem x42_l (h : Sk S) : aL (hp S m q) 42 = some (J 60) := aL_hp (h.at 42)
theorem x43_g (h : Sk S) (h0 : 0 ≤ i) (h1 : i < 60) : aI (hp S m q) 43 (J i) = some (J (m 43 i)) := aI_hp (h.at 43) (by decide) h0 h1
theorem x43_s (h : Sk S) (h0 : 0 ≤ i) (h1 : i < 60) : sI (hp S m q) 43 (J i) (J x) = some (hp S (up m 43 i x) q) := sI_hp (h.at 43) (by decide) h0 h1
theorem x43_l (h : Sk S) : aL (hp S m q) 43 = some (J 60) := aL_hp (h.at 43)
theorem x44_g (h : Sk S) (h0 : 0 ≤ i) (h1 : i < 60) : aI (hp S m q) 44 (J i) = some (J (m 44 i)) := aI_hp (h.at 44) (by decide) h0 h1
theorem x44_s (h : Sk S) (h0 : 0 ≤ i) (h1 : i < 60) : sI (hp S m q) 44 (J i) (J x) = some (hp S (up m 44 i x) q) := sI_hp (h.at 44) (by decide) h0 h1
theorem x44_l (h : Sk S) : aL (hp S m q) 44 = some (J 60) := aL_hp (h.at 44)
theorem x45_g (h : Sk S) (h0 : 0 ≤ i) (h1 : i < 4) : aI (hp S m q) 45 (J i) = some (J (m 45 i)) := aI_hp (h.at 45) (by decide) h0 h1
theorem x45_s (h : Sk S) (h0 : 0 ≤ i) (h1 : i < 4) : sI (hp S m q) 45 (J i) (J x) = some (hp S (up m 45 i x) q) := sI_hp (h.at 45) (by decide) h0 h1
theorem x45_l (h : Sk S) : aL (hp S m q) 45 = some (J 4) := aL_hp (h.at 45)
theorem x46_k (h : Sk S) : kO (hp S m q) 46 1 = some () := kO_hp (h.at 46)
theorem x46_r0 (h : Sk S) : rA (hp S m q) 46 1 0 = some 16 := rA_hp (h.at 46) rfl
theorem x46_r1 (h : Sk S) : rA (hp S m q) 46 1 1 = some 10 := rA_hp (h.at 46) rfl
theorem x46_i2 (h : Sk S) : rI (hp S m q) 46 1 2 = some (J (m 46 2)) := rI_hp (h.at 46) rfl
theorem x46_w2 (h : Sk S) : wV (hp S m q) 46 1 2 (.int (J x)) = some (hp S (up m 46 2 x) q) := wV_hp (h.at 46) rfl
theorem x46_i3 (h : Sk S) : rI (hp S m q) 46 1 3 = some (J (m 46 3)) := rI_hp (h.at 46) rfl
theorem x46_w3 (h : Sk S) : wV (hp S m q) 46 1 3 (.int (J x)) = some (hp S (up m 46 3 x) q) := wV_hp (h.at 46) rfl
theorem x46_i4 (h : Sk S) : rI (hp S m q) 46 1 4 = some (J (m 46 4)) := rI_hp (h.at 46) rfl
theorem x46_w4 (h : Sk S) : wV (hp S m q) 46 1 4 (.int (J x)) = some (hp S (up m 46 4 x) q) := wV_hp (h.at 46) rfl
theorem x46_r5 (h : Sk S) : rA (hp S m q) 46 1 5 = some 47 := rA_hp (h.at 46) rfl
theorem x46_r6 (h : Sk S) : rA (hp S m q) 46 1 6 = some 56 := rA_hp (h.at 46) rfl
theorem x46_r7 (h : Sk S) : rA (hp S m q) 46 1 7 = some 61 := rA_hp (h.at 46) rfl
theorem x46_r8 (h : Sk S) : rA (hp S m q) 46 1 8 = some 62 := rA_hp (h.at 46) rfl
theorem x46_r9 (h : Sk S) : rA (hp S m q) 46 1 9 = some 63 := rA_hp (h.at 46) rfl
theorem x46_r10 (h : Sk S) : rA (hp S m q) 46 1 10 = some 64 := rA_hp (h.at 46) rfl
theorem x46_r11 (h : Sk S) : rA (hp S m q) 46 1 11 = some 65 := rA_hp (h.at 46) rfl
theorem x46_r12 (h : Sk S) : rA (hp S m q) 46 1 12 = some 66 := rA_hp (h.at 46) rfl
theorem x46_r13 (h : Sk S) : rA (hp S m q) 46 1 13 = some 67 := rA_hp (h.at 46) rfl
theorem x46_i14 (h : Sk S) : rI (hp S m q) 46 1 14 = some (J (m 46 14)) := rI_hp (h.at 46) rfl
theorem x46_w14 (h : Sk S) : wV (hp S m q) 46 1 14 (.int (J x)) = some (hp S (up m 46 14 x) q) := wV_hp (h.at 46) rfl
theorem x46_i15 (h : Sk S) : rI (hp S m q) 46 1 15 = some (J (m 46 15)) := rI_hp (h.at 46) rfl
theorem x46_w15 (h : Sk S) : wV (hp S m q) 46 1 15 (.int (J x)) = some (hp S (up m 46 15 x) q) := wV_hp (h.at 46) rfl
theorem x46_i16 (h : Sk S) : rI (hp S m q) 46 1 16 = some (J (m 46 16)) := rI_hp (h.at 46) rfl
theorem x46_w16 (h : Sk S) : wV (hp S m q) 46 1 16 (.int (J x)) = some (hp S (up m 46 16 x) q) := wV_hp (h.at 46) rfl
theorem x47_m (h : Sk S) (h0 : 0 ≤ i) (h1 : i < 8) : aA (hp S m q) 47 (J i) = some (47 + 1 + i.toNat) := aA_hp (h.at 47) (by decide) h0 h1
theorem x47_l (h : Sk S) : aL (hp S m q) 47 = some (J 8) := aLM_hp (h.at 47)
theorem x47_m0 (h : Sk S) : aA (hp S m q) 47 (J 0) = some 48 := aA_hp (i := 0) (h.at 47) (by decide) (by decide) (by decide)
theorem x47_m1 (h : Sk S) : aA (hp S m q) 47 (J 1) = some 49 := aA_hp (i := 1) (h.at 47) (by decide) (by decide) (by decide)
theorem x47_m2 (h : Sk S) : aA (hp S m q) 47 (J 2) = some 50 := aA_hp (i := 2) (h.at 47) (by decide) (by decide) (by decide)
theorem x47_m3 (h : Sk S) : aA (hp S m q) 47 (J 3) = some 51 := aA_hp (i := 3) (h.at 47) (by decide) (by decide) (by decide)
theorem x47_m4 (h : Sk S) : aA (hp S m q) 47 (J 4) = some 52 := aA_hp (i := 4) (h.at 47) (by decide) (by decide) (by decide)
theorem x47_m5 (h : Sk S) : aA (hp S m q) 47 (J 5) = some 53 := aA_hp (i := 5) (h.at 47) (by decide) (by decide) (by decide)
theorem x47_m6 (h : Sk S) : aA (hp S m q) 47 (J 6) = some 54 := aA_hp (i := 6) (h.at 47) (by decide) (by decide) (by decide)
theorem x47_m7 (h : Sk S) : aA (hp S m q) 47 (J 7) = some 55 := aA_hp (i := 7) (h.at 47) (by decide) (by decide) (by decide)
theorem x48_g (h : Sk S) (h0 : 0 ≤ i) (h1 : i < 10) : aI (hp S m q) 48 (J i) = some (J (m 48 i)) := aI_hp (h.at 48) (by decide) h0 h1
theorem x48_s (h : Sk S) (h0 : 0 ≤ i) (h1 : i < 10) : sI (hp S m q) 48 (J i) (J x) = some (hp S (up m 48 i x) q) := sI_hp (h.at 48) (by decide) h0 h1
theorem x48_l (h : Sk S) : aL (hp S m q) 48 = some (J 10) := aL_hp (h.at 48)
theorem x49_g (h : Sk S) (h0 : 0 ≤ i) (h1 : i < 10) : aI (hp S m q) 49 (J i) = some (J (m 49 i)) := aI_hp (h.at 49) (by decide) h0 h1
theorem x49_s (h : Sk S) (h0 : 0 ≤ i) (h1 : i < 10) : sI (hp S m q) 49 (J i) (J x) = some (hp S (up m 49 i x) q) := sI_hp (h.at 49) (by decide) h0 h1
theorem x49_l (h : Sk S) : aL (hp S m q) 49 = some (J 10) := aL_hp (h.at 49)
theorem x50_g (h : Sk S) (h0 : 0 ≤ i) (h1 : i < 10) : aI (hp S m q) 50 (J i) = some (J (m 50 i)) := aI_hp (h.at 50) (by decide) h0 h1
theorem x50_s (h : Sk S) (h0 : 0 ≤ i) (h1 : i < 10) : sI (hp S m q) 50 (J i) (J x) = some (hp S (up m 50 i x) q) := sI_hp (h.at 50) (by decide) h0 h1
theorem x50_l (h : Sk S) : aL (hp S m q) 50 = some (J 10) := aL_hp (h.at 50)
theorem x51_g (h : Sk S) (h0 : 0 ≤ i) (h1 : i < 10) : aI (hp S m q) 51 (J i) = some (J (m 51 i)) := aI_hp (h.at 51) (by decide) h0 h1
theorem x51_s (h : Sk S) (h0 : 0 ≤ i) (h1 : i < 10) : sI (hp S m q) 51 (J i) (J x) = some (hp S (up m 51 i x) q) := sI_hp (h.at 51) (by decide) h0 h1
theorem x51_l (h : Sk S) : aL (hp S m q) 51 = some (J 10) := aL_hp (h.at 51)
theorem x52_g (h : Sk S) (h0 : 0 ≤ i) (h1 : i < 10) : aI (hp S m q) 52 (J i) = some (J (m 52 i)) := aI_hp (h.at 52) (by decide) h0 h1
theorem x52_s (h : Sk S) (h0 : 0 ≤ i) (h1 : i < 10) : sI (hp S m q) 52 (J i) (J x) = some (hp S (up m 52 i x) q) := sI_hp (h.at 52) (by decide) h0 h1
theorem x52_l (h : Sk S) : aL (hp S m q) 52 = some (J 10) := aL_hp (h.at 52)
theorem x53_g (h : Sk S) (h0 : 0 ≤ i) (h1 : i < 10) : aI (hp S m q) 53 (J i) = some (J (m 53 i)) := aI_hp (h.at 53) (by decide) h0 h1
theorem x53_s (h : Sk S) (h0 : 0 ≤ i) (h1 : i < 10) : sI (hp S m q) 53 (J i) (J x) = some (hp S (up m 53 i x) q) := sI_hp (h.at 53) (by decide) h0 h1
theorem x53_l (h : Sk S) : aL (hp S m q) 53 = some (J 10) := aL_hp (h.at 53)
theorem x54_g (h : Sk S) (h0 : 0 ≤ i) (h1 : i < 10) : aI (hp S m q) 54 (J i) = some (J (m 54 i)) := aI_hp (h.at 54) (by decide) h0 h1
theorem x54_s (h : Sk S) (h0 : 0 ≤ i) (h1 : i < 10) : sI (hp S m q) 54 (J i) (J x) = some (hp S (up m 54 i x) q) := sI_hp (h.at 54) (by decide) h0 h1
theorem x54_l (h : Sk S) : aL (hp S m q) 54 = some (J 10) := aL_hp (h.at 54)
theorem x55_g (h : Sk S) (h0 : 0 ≤ i) (h1 : i < 10) : aI (hp S m q) 55 (J i) = some (J (m 55 i)) := aI_hp (h.at 55) (by decide) h0 h1
theorem x55_s (h : Sk S) (h0 : 0 ≤ i) (h1 : i < 10) : sI (hp S m q) 55 (J i) (J x) = some (hp S (up m 55 i x) q) := sI_hp (h.at 55) (by decide) h0 h1
theorem x55_l (h : Sk S) : aL (hp S m q) 55 = some (J 10) := aL_hp (h.at 55)
theorem x56_m (h : Sk S) (h0 : 0 ≤ i) (h1 : i < 4) : aA (hp S m q) 56 (J i) = some (56 + 1 + i.toNat) := aA_hp (h.at 56) (by decide) h0 h1
theorem x56_l (h : Sk S) : aL (hp S m q) 56 = some (J 4) := aLM_hp (h.at 56)
theorem x56_m0 (h : Sk S) : aA (hp S m q) 56 (J 0) = some 57 := aA_hp (i := 0) (h.at 56) (by decide) (by decide) (by decide)
theorem x56_m1 (h : Sk S) : aA (hp S m q) 56 (J 1) = some 58 := aA_hp (i := 1) (h.at 56) (by decide) (by decide) (by decide)
theorem x56_m2 (h : Sk S) : aA (hp S m q) 56 (J 2) = some 59 := aA_hp (i := 2) (h.at 56) (by decide) (by decide) (by decide)
theorem x56_m3 (h : Sk S) : aA (hp S m q) 56 (J 3) = some 60 := aA_hp (i := 3) (h.at 56) (by decide) (by decide) (by decide)
theorem x57_g (h : Sk S) (h0 : 0 ≤ i) (h1 : i < 300) : aI (hp S m q) 57 (J i) = some (J (m 57 i)) := aI_hp (h.at 57) (by decide) h0 h1
theorem x57_s (h : Sk S) (h0 : 0 ≤ i) (h1 : i < 300) : sI (hp S m q) 57 (J i) (J x) = some (hp S (up m 57 i x) q) := sI_hp (h.at 57) (by decide) h0 h1
theorem x57_l (h : Sk S) : aL (hp S m q) 57 = some (J 300) := aL_hp (h.at 57)
theorem x58_g (h : Sk S) (h0 : 0 ≤ i) (h1 : i < 300) : aI (hp S m q) 58 (J i) = some (J (m 58 i)) := aI_hp (h.at 58) (by decide) h0 h1
theorem x58_s (h : Sk S) (h0 : 0 ≤ i) (h1 : i < 300) : sI (hp S m q) 58 (J i) (J x) = some (hp S (up m 58 i x) q) := sI_hp (h.at 58) (by decide) h0 h1
theorem x58_l (h : Sk S) : aL (hp S m q) 58 = some (J 300) := aL_hp (h.at 58)
theorem x59_g (h : Sk S) (h0 : 0 ≤ i) (h1 : i < 300) : aI (hp S m q) 59 (J i) = some (J (m 59 i)) := aI_hp (h.at 59) (by decide) h0 h1
theorem x59_s (h : Sk S) (h0 : 0 ≤ i) (h1 : i < 300) : sI (hp S m q) 59 (J i) (J x) = some (hp S (up m 59 i x) q) := sI_hp (h.at 59) (by decide) h0 h1
theorem x59_l (h : Sk S) : aL (hp S m q) 59 = some (J 300) := aL_hp (h.at 59)
theorem x60_g (h : Sk S) (h0 : 0 ≤ i) (h1 : i < 300) : aI (hp S m q) 60 (J i) = some (J (m 60 i)) := aI_hp (h.at 60) (by decide) h0 h1
theorem x60_s (h : Sk S) (h0 : 0 ≤ i) (h1 : i < 300) : sI (hp S m q) 60 (J i) (J x) = some (hp S (up m 60 i x) q) := sI_hp (h.at 60) (by decide) h0 h1
theorem x60_l (h : Sk S) : aL (hp S m q) 60 = some (J 300) := aL_hp (h.at 60)
theorem x61_g (h : Sk S) (h0 : 0 ≤ i) (h1 : i < 300) : aJ (hp S m q) 61 (J i) = some (q 61 i) := aJ_hp (h.at 61) (by decide) h0 h1
theorem x61_s (h : Sk S) {y : Int64} (h0 : 0 ≤ i) (h1 : i < 300) : sJ (hp S m q) 61 (J i) y = some (hp S m (uq q 61 i y)) := sJ_hp (h.at 61) (by decide) h0 h1
theorem x61_l (h : Sk S) : aL (hp S m q) 61 = some (J 300) := aLJ_hp (h.at 61)
theorem x62_g (h : Sk S) (h0 : 0 ≤ i) (h1 : i < 10) : aI (hp S m q) 62 (J i) = some (J (m 62 i)) := aI_hp (h.at 62) (by decide) h0 h1
theorem x62_s (h : Sk S) (h0 : 0 ≤ i) (h1 : i < 10) : sI (hp S m q) 62 (J i) (J x) = some (hp S (up m 62 i x) q) := sI_hp (h.at 62) (by decide) h0 h1
theorem x62_l (h : Sk S) : aL (hp S m q) 62 = some (J 10) := aL_hp (h.at 62)
theorem x63_g (h : Sk S) (h0 : 0 ≤ i) (h1 : i < 30) : aI (hp S m q) 63 (J i) = some (J (m 63 i)) := aI_hp (h.at 63) (by decide) h0 h1
theorem x63_s (h : Sk S) (h0 : 0 ≤ i) (h1 : i < 30) : sI (hp S m q) 63 (J i) (J x) = some (hp S (up m 63 i x) q) := sI_hp (h.at 63) (by decide) h0 h1
theorem x63_l (h : Sk S) : aL (hp S m q) 63 = some (J 30) := aL_hp (h.at 63)
theorem x64_g (h : Sk S) (h0 : 0 ≤ i) (h1 : i < 30) : aI (hp S m q) 64 (J i) = some (J (m 64 i)) := aI_hp (h.at 64) (by decide) h0 h1
theorem x64_s (h : Sk S) (h0 : 0 ≤ i) (h1 : i < 30) : sI (hp S m q) 64 (J i) (J x) = some (hp S (up m 64 i x) q) := sI_hp (h.at 64) (by decide) h0 h1
theorem x64_l (h : Sk S) : aL (hp S m q) 64 = some (J 30) := aL_hp (h.at 64)
theorem x65_g (h : Sk S) (h0 : 0 ≤ i) (h1 : i < 30) : aI (hp S m q) 65 (J i) = some (J (m 65 i)) := aI_hp (h.at 65) (by decide) h0 h1
theorem x65_s (h : Sk S) (h0 : 0 ≤ i) (h1 : i < 30) : sI (hp S m q) 65 (J i) (J x) = some (hp S (up m 65 i x) q) := sI_hp (h.at 65) (by decide) h0 h1
theorem x65_l (h : Sk S) : aL (hp S m q) 65 = some (J 30) := aL_hp (h.at 65)
theorem x66_g (h : Sk S) (h0 : 0 ≤ i) (h1 : i < 30) : aJ (hp S m q) 66 (J i) = some (q 66 i) := aJ_hp (h.at 66) (by decide) h0 h1
theorem x66_s (h : Sk S) {y : Int64} (h0 : 0 ≤ i) (h1 : i < 30) : sJ (hp S m q) 66 (J i) y = some (hp S m (uq q 66 i y)) := sJ_hp (h.at 66) (by decide) h0 h1
theorem x66_l (h : Sk S) : aL (hp S m q) 66 = some (J 30) := aLJ_hp (h.at 66)
theorem x67_g (h : Sk S) (h0 : 0 ≤ i) (h1 : i < 10) : aI (hp S m q) 67 (J i) = some (J (m 67 i)) := aI_hp (h.at 67) (by decide) h0 h1
theorem x67_s (h : Sk S) (h0 : 0 ≤ i) (h1 : i < 10) : sI (hp S m q) 67 (J i) (J x) = some (hp S (up m 67 i x) q) := sI_hp (h.at 67) (by decide) h0 h1
theorem x67_l (h : Sk S) : aL (hp S m q) 67 = some (J 10) := aL_hp (h.at 67)
theorem x68_k (h : Sk S) : kO (hp S m q) 68 1 = some () := kO_hp (h.at 68)
theorem x68_r0 (h : Sk S) : rA (hp S m q) 68 1 0 = some 16 := rA_hp (h.at 68) rfl
theorem x68_r1 (h : Sk S) : rA (hp S m q) 68 1 1 = some 10 := rA_hp (h.at 68) rfl
theorem x68_i2 (h : Sk S) : rI (hp S m q) 68 1 2 = some (J (m 68 2)) := rI_hp (h.at 68) rfl
theorem x68_w2 (h : Sk S) : wV (hp S m q) 68 1 2 (.int (J x)) = some (hp S (up m 68 2 x) q) := wV_hp (h.at 68) rfl
theorem x68_i3 (h : Sk S) : rI (hp S m q) 68 1 3 = some (J (m 68 3)) := rI_hp (h.at 68) rfl
theorem x68_w3 (h : Sk S) : wV (hp S m q) 68 1 3 (.int (J x)) = some (hp S (up m 68 3 x) q) := wV_hp (h.at 68) rfl
theorem x68_i4 (h : Sk S) : rI (hp S m q) 68 1 4 = some (J (m 68 4)) := rI_hp (h.at 68) rfl
theorem x68_w4 (h : Sk S) : wV (hp S m q) 68 1 4 (.int (J x)) = some (hp S (up m 68 4 x) q) := wV_hp (h.at 68) rfl
theorem x68_r5 (h : Sk S) : rA (hp S m q) 68 1 5 = some 69 := rA_hp (h.at 68) rfl
theorem x68_r6 (h : Sk S) : rA (hp S m q) 68 1 6 = some 78 := rA_hp (h.at 68) rfl
theorem x68_r7 (h : Sk S) : rA (hp S m q) 68 1 7 = some 83 := rA_hp (h.at 68) rfl
theorem x68_r8 (h : Sk S) : rA (hp S m q) 68 1 8 = some 84 := rA_hp (h.at 68) rfl
theorem x68_r9 (h : Sk S) : rA (hp S m q) 68 1 9 = some 85 := rA_hp (h.at 68) rfl
theorem x68_r10 (h : Sk S) : rA (hp S m q) 68 1 10 = some 86 := rA_hp (h.at 68) rfl
theorem x68_r11 (h : Sk S) : rA (hp S m q) 68 1 11 = some 87 := rA_hp (h.at 68) rfl
theorem x68_r12 (h : Sk S) : rA (hp S m q) 68 1 12 = some 88 := rA_hp (h.at 68) rfl
theorem x68_r13 (h : Sk S) : rA (hp S m q) 68 1 13 = some 89 := rA_hp (h.at 68) rfl
theorem x68_i14 (h : Sk S) : rI (hp S m q) 68 1 14 = some (J (m 68 14)) := rI_hp (h.at 68) rfl
theorem x68_w14 (h : Sk S) : wV (hp S m q) 68 1 14 (.int (J x)) = some (hp S (up m 68 14 x) q) := wV_hp (h.at 68) rfl
theorem x68_i15 (h : Sk S) : rI (hp S m q) 68 1 15 = some (J (m 68 15)) := rI_hp (h.at 68) rfl
theorem x68_w15 (h : Sk S) : wV (hp S m q) 68 1 15 (.int (J x)) = some (hp S (up m 68 15 x) q) := wV_hp (h.at 68) rfl
theorem x68_i16 (h : Sk S) : rI (hp S m q) 68 1 16 = some (J (m 68 16)) := rI_hp (h.at 68) rfl
theorem x68_w16 (h : Sk S) : wV (hp S m q) 68 1 16 (.int (J x)) = some (hp S (up m 68 16 x) q) := wV_hp (h.at 68) rfl
theorem x69_m (h : Sk S) (h0 : 0 ≤ i) (h1 : i < 8) : aA (hp S m q) 69 (J i) = some (69 + 1 + i.toNat) := aA_hp (h.at 69) (by decide) h0 h1
theorem x69_l (h : Sk S) : aL (hp S m q) 69 = some (J 8) := aLM_hp (h.at 69)
theorem x69_m0 (h : Sk S) : aA (hp S m q) 69 (J 0) = some 70 := aA_hp (i := 0) (h.at 69) (by decide) (by decide) (by decide)
theorem x69_m1 (h : Sk S) : aA (hp S m q) 69 (J 1) = some 71 := aA_hp (i := 1) (h.at 69) (by decide) (by decide) (by decide)
theorem x69_m2 (h : Sk S) : aA (hp S m q) 69 (J 2) = some 72 := aA_hp (i := 2) (h.at 69) (by decide) (by decide) (by decide)
theorem x69_m3 (h : Sk S) : aA (hp S m q) 69 (J 3) = some 73 := aA_hp (i := 3) (h.at 69) (by decide) (by decide) (by decide)
theorem x69_m4 (h : Sk S) : aA (hp S m q) 69 (J 4) = some 74 := aA_hp (i := 4) (h.at 69) (by decide) (by decide) (by decide)
theorem x69_m5 (h : Sk S) : aA (hp S m q) 69 (J 5) = some 75 := aA_hp (i := 5) (h.at 69) (by decide) (by decide) (by decide)
theorem x69_m6 (h : Sk S) : aA (hp S m q) 69 (J 6) = some 76 := aA_hp (i := 6) (h.at 69) (by decide) (by decide) (by decide)
theorem x69_m7 (h : Sk S) : aA (hp S m q) 69 (J 7) = some 77 := aA_hp (i := 7) (h.at 69) (by decide) (by decide) (by decide)
theorem x70_g (h : Sk S) (h0 : 0 ≤ i) (h1 : i < 10) : aI (hp S m q) 70 (J i) = some (J (m 70 i)) := aI_hp (h.at 70) (by decide) h0 h1
theorem x70_s (h : Sk S) (h0 : 0 ≤ i) (h1 : i < 10) : sI (hp S m q) 70 (J i) (J x) = some (hp S (up m 70 i x) q) := sI_hp (h.at 70) (by decide) h0 h1
theorem x70_l (h : Sk S) : aL (hp S m q) 70 = some (J 10) := aL_hp (h.at 70)
theorem x71_g (h : Sk S) (h0 : 0 ≤ i) (h1 : i < 10) : aI (hp S m q) 71 (J i) = some (J (m 71 i)) := aI_hp (h.at 71) (by decide) h0 h1
theorem x71_s (h : Sk S) (h0 : 0 ≤ i) (h1 : i < 10) : sI (hp S m q) 71 (J i) (J x) = some (hp S (up m 71 i x) q) := sI_hp (h.at 71) (by decide) h0 h1
theorem x71_l (h : Sk S) : aL (hp S m q) 71 = some (J 10) := aL_hp (h.at 71)
theorem x72_g (h : Sk S) (h0 : 0 ≤ i) (h1 : i < 10) : aI (hp S m q) 72 (J i) = some (J (m 72 i)) := aI_hp (h.at 72) (by decide) h0 h1
theorem x72_s (h : Sk S) (h0 : 0 ≤ i) (h1 : i < 10) : sI (hp S m q) 72 (J i) (J x) = some (hp S (up m 72 i x) q) := sI_hp (h.at 72) (by decide) h0 h1
theorem x72_l (h : Sk S) : aL (hp S m q) 72 = some (J 10) := aL_hp (h.at 72)
theorem x73_g (h : Sk S) (h0 : 0 ≤ i) (h1 : i < 10) : aI (hp S m q) 73 (J i) = some (J (m 73 i)) := aI_hp (h.at 73) (by decide) h0 h1
theorem x73_s (h : Sk S) (h0 : 0 ≤ i) (h1 : i < 10) : sI (hp S m q) 73 (J i) (J x) = some (hp S (up m 73 i x) q) := sI_hp (h.at 73) (by decide) h0 h1
theorem x73_l (h : Sk S) : aL (hp S m q) 73 = some (J 10) := aL_hp (h.at 73)
theorem x74_g (h : Sk S) (h0 : 0 ≤ i) (h1 : i < 10) : aI (hp S m q) 74 (J i) = some (J (m 74 i)) := aI_hp (h.at 74) (by decide) h0 h1
theorem x74_s (h : Sk S) (h0 : 0 ≤ i) (h1 : i < 10) : sI (hp S m q) 74 (J i) (J x) = some (hp S (up m 74 i x) q) := sI_hp (h.at 74) (by decide) h0 h1
theorem x74_l (h : Sk S) : aL (hp S m q) 74 = some (J 10) := aL_hp (h.at 74)
theorem x75_g (h : Sk S) (h0 : 0 ≤ i) (h1 : i < 10) : aI (hp S m q) 75 (J i) = some (J (m 75 i)) := aI_hp (h.at 75) (by decide) h0 h1
theorem x75_s (h : Sk S) (h0 : 0 ≤ i) (h1 : i < 10) : sI (hp S m q) 75 (J i) (J x) = some (hp S (up m 75 i x) q) := sI_hp (h.at 75) (by decide) h0 h1
theorem x75_l (h : Sk S) : aL (hp S m q) 75 = some (J 10) := aL_hp (h.at 75)
theorem x76_g (h : Sk S) (h0 : 0 ≤ i) (h1 : i < 10) : aI (hp S m q) 76 (J i) = some (J (m 76 i)) := aI_hp (h.at 76) (by decide) h0 h1
theorem x76_s (h : Sk S) (h0 : 0 ≤ i) (h1 : i < 10) : sI (hp S m q) 76 (J i) (J x) = some (hp S (up m 76 i x) q) := sI_hp (h.at 76) (by decide) h0 h1
theorem x76_l (h : Sk S) : aL (hp S m q) 76 = some (J 10) := aL_hp (h.at 76)
theorem x77_g (h : Sk S) (h0 : 0 ≤ i) (h1 : i < 10) : aI (hp S m q) 77 (J i) = some (J (m 77 i)) := aI_hp (h.at 77) (by decide) h0 h1
theorem x77_s (h : Sk S) (h0 : 0 ≤ i) (h1 : i < 10) : sI (hp S m q) 77 (J i) (J x) = some (hp S (up m 77 i x) q) := sI_hp (h.at 77) (by decide) h0 h1
theorem x77_l (h : Sk S) : aL (hp S m q) 77 = some (J 10) := aL_hp (h.at 77)
theorem x78_m (h : Sk S) (h0 : 0 ≤ i) (h1 : i < 4) : aA (hp S m q) 78 (J i) = some (78 + 1 + i.toNat) := aA_hp (h.at 78) (by decide) h0 h1
theorem x78_l (h : Sk S) : aL (hp S m q) 78 = some (J 4) := aLM_hp (h.at 78)
theorem x78_m0 (h : Sk S) : aA (hp S m q) 78 (J 0) = some 79 := aA_hp (i := 0) (h.at 78) (by decide) (by decide) (by decide)
theorem x78_m1 (h : Sk S) : aA (hp S m q) 78 (J 1) = some 80 := aA_hp (i := 1) (h.at 78) (by decide) (by decide) (by decide)
theorem x78_m2 (h : Sk S) : aA (hp S m q) 78 (J 2) = some 81 := aA_hp (i := 2) (h.at 78) (by decide) (by decide) (by decide)
theorem x78_m3 (h : Sk S) : aA (hp S m q) 78 (J 3) = some 82 := aA_hp (i := 3) (h.at 78) (by decide) (by decide) (by decide)
theorem x79_g (h : Sk S) (h0 : 0 ≤ i) (h1 : i < 300) : aI (hp S m q) 79 (J i) = some (J (m 79 i)) := aI_hp (h.at 79) (by decide) h0 h1
theorem x79_s (h : Sk S) (h0 : 0 ≤ i) (h1 : i < 300) : sI (hp S m q) 79 (J i) (J x) = some (hp S (up m 79 i x) q) := sI_hp (h.at 79) (by decide) h0 h1
theorem x79_l (h : Sk S) : aL (hp S m q) 79 = some (J 300) := aL_hp (h.at 79)
theorem x80_g (h : Sk S) (h0 : 0 ≤ i) (h1 : i < 300) : aI (hp S m q) 80 (J i) = some (J (m 80 i)) := aI_hp (h.at 80) (by decide) h0 h1
theorem x80_s (h : Sk S) (h0 : 0 ≤ i) (h1 : i < 300) : sI (hp S m q) 80 (J i) (J x) = some (hp S (up m 80 i x) q) := sI_hp (h.at 80) (by decide) h0 h1
theorem x80_l (h : Sk S) : aL (hp S m q) 80 = some (J 300) := aL_hp (h.at 80)
theorem x81_g (h : Sk S) (h0 : 0 ≤ i) (h1 : i < 300) : aI (hp S m q) 81 (J i) = some (J (m 81 i)) := aI_hp (h.at 81) (by decide) h0 h1
theorem x81_s (h : Sk S) (h0 : 0 ≤ i) (h1 : i < 300) : sI (hp S m q) 81 (J i) (J x) = some (hp S (up m 81 i x) q) := sI_hp (h.at 81) (by decide) h0 h1
theorem x81_l (h : Sk S) : aL (hp S m q) 81 = some (J 300) := aL_hp (h.at 81)
theorem x82_g (h : Sk S) (h0 : 0 ≤ i) (h1 : i < 300) : aI (hp S m q) 82 (J i) = some (J (m 82 i)) := aI_hp (h.at 82) (by decide) h0 h1
theorem x82_s (h : Sk S) (h0 : 0 ≤ i) (h1 : i < 300) : sI (hp S m q) 82 (J i) (J x) = some (hp S (up m 82 i x) q) := sI_hp (h.at 82) (by decide) h0 h1
theorem x82_l (h : Sk S) : aL (hp S m q) 82 = some (J 300) := aL_hp (h.at 82)
theorem x83_g (h : Sk S) (h0 : 0 ≤ i) (h1 : i < 300) : aJ (hp S m q) 83 (J i) = some (q 83 i) := aJ_hp (h.at 83) (by decide) h0 h1
theorem x83_s (h : Sk S) {y : Int64} (h0 : 0 ≤ i) (h1 : i < 300) : sJ (hp S m q) 83 (J i) y = some (hp S m (uq q 83 i y)) := sJ_hp (h.at 83) (by decide) h0 h1
theorem x83_l (h : Sk S) : aL (hp S m q) 83 = some (J 300) := aLJ_hp (h.at 83)
theorem x84_g (h : Sk S) (h0 : 0 ≤ i) (h1 : i < 10) : aI (hp S m q) 84 (J i) = some (J (m 84 i)) := aI_hp (h.at 84) (by decide) h0 h1
theorem x84_s (h : Sk S) (h0 : 0 ≤ i) (h1 : i < 10) : sI (hp S m q) 84 (J i) (J x) = some (hp S (up m 84 i x) q) := sI_hp (h.at 84) (by decide) h0 h1
theorem x84_l (h : Sk S) : aL (hp S m q) 84 = some (J 10) := aL_hp (h.at 84)
theorem x85_g (h : Sk S) (h0 : 0 ≤ i) (h1 : i < 30) : aI (hp S m q) 85 (J i) = some (J (m 85 i)) := aI_hp (h.at 85) (by decide) h0 h1
theorem x85_s (h : Sk S) (h0 : 0 ≤ i) (h1 : i < 30) : sI (hp S m q) 85 (J i) (J x) = some (hp S (up m 85 i x) q) := sI_hp (h.at 85) (by decide) h0 h1
theorem x85_l (h : Sk S) : aL (hp S m q) 85 = some (J 30) := aL_hp (h.at 85)
theorem x86_g (h : Sk S) (h0 : 0 ≤ i) (h1 : i < 30) : aI (hp S m q) 86 (J i) = some (J (m 86 i)) := aI_hp (h.at 86) (by decide) h0 h1
theorem x86_s (h : Sk S) (h0 : 0 ≤ i) (h1 : i < 30) : sI (hp S m q) 86 (J i) (J x) = some (hp S (up m 86 i x) q) := sI_hp (h.at 86) (by decide) h0 h1
theorem x86_l (h : Sk S) : aL (hp S m q) 86 = some (J 30) := aL_hp (h.at 86)
theorem x87_g (h : Sk S) (h0 : 0 ≤ i) (h1 : i < 30) : aI (hp S m q) 87 (J i) = some (J (m 87 i)) := aI_hp (h.at 87) (by decide) h0 h1
theorem x87_s (h : Sk S) (h0 : 0 ≤ i) (h1 : i < 30) : sI (hp S m q) 87 (J i) (J x) = some (hp S (up m 87 i x) q) := sI_hp (h.at 87) (by decide) h0 h1
theorem x87_l (h : Sk S) : aL (hp S m q) 87 = some (J 30) := aL_hp (h.at 87)
theorem x88_g (h : Sk S) (h0 : 0 ≤ i) (h1 : i < 30) : aJ (hp S m q) 88 (J i) = some (q 88 i) := aJ_hp (h.at 88) (by decide) h0 h1
theorem x88_s (h : Sk S) {y : Int64} (h0 : 0 ≤ i) (h1 : i < 30) : sJ (hp S m q) 88 (J i) y = some (hp S m (uq q 88 i y)) := sJ_hp (h.at 88) (by decide) h0 h1
theorem x88_l (h : Sk S) : aL (hp S m q) 88 = some (J 30) := aLJ_hp (h.at 88)
theorem x89_g (h : Sk S) (h0 : 0 ≤ i) (h1 : i < 10) : aI (hp S m q) 89 (J i) = some (J (m 89 i)) := aI_hp (h.at 89) (by decide) h0 h1
theorem x89_s (h : Sk S) (h0 : 0 ≤ i) (h1 : i < 10) : sI (hp S m q) 89 (J i) (J x) = some (hp S (up m 89 i x) q) := sI_hp (h.at 89) (by decide) h0 h1
theorem x89_l (h : Sk S) : aL (hp S m q) 89 = some (J 10) := aL_hp (h.at 89)
theorem x90_k (h : Sk S) : kO (hp S m q) 90 4 = some () := kO_hp (h.at 90)
theorem x90_r0 (h : Sk S) : rA (hp S m q) 90 4 0 = some 91 := rA_hp (h.at 90) rfl
theorem x90_r1 (h : Sk S) : rA (hp S m q) 90 4 1 = some 92 := rA_hp (h.at 90) rfl
theorem x90_i2 (h : Sk S) : rI (hp S m q) 90 4 2 = some (J (m 90 2)) := rI_hp (h.at 90) rfl
theorem x90_w2 (h : Sk S) : wV (hp S m q) 90 4 2 (.int (J x)) = some (hp S (up m 90 2 x) q) := wV_hp (h.at 90) rfl
theorem x91_g (h : Sk S) (h0 : 0 ≤ i) (h1 : i < 8) : aI (hp S m q) 91 (J i) = some (J (m 91 i)) := aI_hp (h.at 91) (by decide) h0 h1
theorem x91_s (h : Sk S) (h0 : 0 ≤ i) (h1 : i < 8) : sI (hp S m q) 91 (J i) (J x) = some (hp S (up m 91 i x) q) := sI_hp (h.at 91) (by decide) h0 h1
theorem x91_l (h : Sk S) : aL (hp S m q) 91 = some (J 8) := aL_hp (h.at 91)
theorem x92_g (h : Sk S) (h0 : 0 ≤ i) (h1 : i < 8) : aI (hp S m q) 92 (J i) = some (J (m 92 i)) := aI_hp (h.at 92) (by decide) h0 h1
theorem x92_s (h : Sk S) (h0 : 0 ≤ i) (h1 : i < 8) : sI (hp S m q) 92 (J i) (J x) = some (hp S (up m 92 i x) q) := sI_hp (h.at 92) (by decide) h0 h1
theorem x92_l (h : Sk S) : aL (hp S m q) 92 = some (J 8) := aL_hp (h.at 92)
theorem x93_k (h : Sk S) : kO (hp S m q) 93 2 = some () := kO_hp (h.at 93)
theorem x93_r0 (h : Sk S) : rA (hp S m q) 93 2 0 = some 94 := rA_hp (h.at 93) rfl
theorem x93_r1 (h : Sk S) : rA (hp S m q) 93 2 1 = some 95 := rA_hp (h.at 93) rfl
theorem x93_r2 (h : Sk S) : rA (hp S m q) 93 2 2 = some 96 := rA_hp (h.at 93) rfl
theorem x93_r3 (h : Sk S) : rA (hp S m q) 93 2 3 = some 97 := rA_hp (h.at 93) rfl
theorem x93_r4 (h : Sk S) : rA (hp S m q) 93 2 4 = some 98 := rA_hp (h.at 93) rfl
theorem x93_i5 (h : Sk S) : rI (hp S m q) 93 2 5 = some (J (m 93 5)) := rI_hp (h.at 93) rfl
theorem x93_w5 (h : Sk S) : wV (hp S m q) 93 2 5 (.int (J x)) = some (hp S (up m 93 5 x) q) := wV_hp (h.at 93) rfl
theorem x93_i6 (h : Sk S) : rI (hp S m q) 93 2 6 = some (J (m 93 6)) := rI_hp (h.at 93) rfl
theorem x93_w6 (h : Sk S) : wV (hp S m q) 93 2 6 (.int (J x)) = some (hp S (up m 93 6 x) q) := wV_hp (h.at 93) rfl
theorem x93_i7 (h : Sk S) : rI (hp S m q) 93 2 7 = some (J (m 93 7)) := rI_hp (h.at 93) rfl
theorem x93_w7 (h : Sk S) : wV (hp S m q) 93 2 7 (.int (J x)) = some (hp S (up m 93 7 x) q) := wV_hp (h.at 93) rfl
theorem x93_i8 (h : Sk S) : rI (hp S m q) 93 2 8 = some (J (m 93 8)) := rI_hp (h.at 93) rfl
theorem x93_w8 (h : Sk S) : wV (hp S m q) 93 2 8 (.int (J x)) = some (hp S (up m 93 8 x) q) := wV_hp (h.at 93) rfl
theorem x94_g (h : Sk S) (h0 : 0 ≤ i) (h1 : i < 7) : aI (hp S m q) 94 (J i) = some (J (m 94 i)) := aI_hp (h.at 94) (by decide) h0 h1
theorem x94_s (h : Sk S) (h0 : 0 ≤ i) (h1 : i < 7) : sI (hp S m q) 94 (J i) (J x) = some (hp S (up m 94 i x) q) := sI_hp (h.at 94) (by decide) h0 h1
theorem x94_l (h : Sk S) : aL (hp S m q) 94 = some (J 7) := aL_hp (h.at 94)
theorem x95_g (h : Sk S) (h0 : 0 ≤ i) (h1 : i < 7) : aI (hp S m q) 95 (J i) = some (J (m 95 i)) := aI_hp (h.at 95) (by decide) h0 h1
theorem x95_s (h : Sk S) (h0 : 0 ≤ i) (h1 : i < 7) : sI (hp S m q) 95 (J i) (J x) = some (hp S (up m 95 i x) q) := sI_hp (h.at 95) (by decide) h0 h1
theorem x95_l (h : Sk S) : aL (hp S m q) 95 = some (J 7) := aL_hp (h.at 95)
theorem x96_g (h : Sk S) (h0 : 0 ≤ i) (h1 : i < 7) : aI (hp S m q) 96 (J i) = some (J (m 96 i)) := aI_hp (h.at 96) (by decide) h0 h1
theorem x96_s (h : Sk S) (h0 : 0 ≤ i) (h1 : i < 7) : sI (hp S m q) 96 (J i) (J x) = some (hp S (up m 96 i x) q) := sI_hp (h.at 96) (by decide) h0 h1
theorem x96_l (h : Sk S) : aL (hp S m q) 96 = some (J 7) := aL_hp (h.at 96)
theorem x97_g (h : Sk S) (h0 : 0 ≤ i) (h1 : i < 7) : aI (hp S m q) 97 (J i) = some (J (m 97 i)) := aI_hp (h.at 97) (by decide) h0 h1
theorem x97_s (h : Sk S) (h0 : 0 ≤ i) (h1 : i < 7) : sI (hp S m q) 97 (J i) (J x) = some (hp S (up m 97 i x) q) := sI_hp (h.at 97) (by decide) h0 h1
theorem x97_l (h : Sk S) : aL (hp S m q) 97 = some (J 7) := aL_hp (h.at 97)
theorem x98_g (h : Sk S) (h0 : 0 ≤ i) (h1 : i < 7) : aI (hp S m q) 98 (J i) = some (J (m 98 i)) := aI_hp (h.at 98) (by decide) h0 h1
theorem x98_s (h : Sk S) (h0 : 0 ≤ i) (h1 : i < 7) : sI (hp S m q) 98 (J i) (J x) = some (hp S (up m 98 i x) q) := sI_hp (h.at 98) (by decide) h0 h1
theorem x98_l (h : Sk S) : aL (hp S m q) 98 = some (J 7) := aL_hp (h.at 98)
theorem x99_k (h : Sk S) : kO (hp S m q) 99 0 = some () := kO_hp (h.at 99)
theorem x99_r0 (h : Sk S) : rA (hp S m q) 99 0 0 = some 100 := rA_hp (h.at 99) rfl
theorem x99_r1 (h : Sk S) : rA (hp S m q) 99 0 1 = some 107 := rA_hp (h.at 99) rfl
theorem x99_r2 (h : Sk S) : rA (hp S m q) 99 0 2 = some 108 := rA_hp (h.at 99) rfl
theorem x99_r3 (h : Sk S) : rA (hp S m q) 99 0 3 = some 109 := rA_hp (h.at 99) rfl
theorem x99_r4 (h : Sk S) : rA (hp S m q) 99 0 4 = some 110 := rA_hp (h.at 99) rfl
theorem x99_i5 (h : Sk S) : rI (hp S m q) 99 0 5 = some (J (m 99 5)) := rI_hp (h.at 99) rfl
theorem x99_w5 (h : Sk S) : wV (hp S m q) 99 0 5 (.int (J x)) = some (hp S (up m 99 5 x) q) := wV_hp (h.at 99) rfl
theorem x99_i6 (h : Sk S) : rI (hp S m q) 99 0 6 = some (J (m 99 6)) := rI_hp (h.at 99) rfl
theorem x99_w6 (h : Sk S) : wV (hp S m q) 99 0 6 (.int (J x)) = some (hp S (up m 99 6 x) q) := wV_hp (h.at 99) rfl
theorem x99_i7 (h : Sk S) : rI (hp S m q) 99 0 7 = some (J (m 99 7)) := rI_hp (h.at 99) rfl
theorem x99_w7 (h : Sk S) : wV (hp S m q) 99 0 7 (.int (J x)) = some (hp S (up m 99 7 x) q) := wV_hp (h.at 99) rfl
theorem x100_m (h : Sk S) (h0 : 0 ≤ i) (h1 : i < 6) : aA (hp S m q) 100 (J i) = some (100 + 1 + i.toNat) := aA_hp (h.at 100) (by decide) h0 h1
theorem x100_l (h : Sk S) : aL (hp S m q) 100 = some (J 6) := aLM_hp (h.at 100)
theorem x100_m0 (h : Sk S) : aA (hp S m q) 100 (J 0) = some 101 := aA_hp (i := 0) (h.at 100) (by decide) (by decide) (by decide)
theorem x100_m1 (h : Sk S) : aA (hp S m q) 100 (J 1) = some 102 := aA_hp (i := 1) (h.at 100) (by decide) (by decide) (by decide)
theorem x100_m2 (h : Sk S) : aA (hp S m q) 100 (J 2) = some 103 := aA_hp (i := 2) (h.at 100) (by decide) (by decide) (by decide)
theorem x100_m3 (h : Sk S) : aA (hp S m q) 100 (J 3) = some 104 := aA_hp (i := 3) (h.at 100) (by decide) (by decide) (by decide)
theorem x100_m4 (h : Sk S) : aA (hp S m q) 100 (J 4) = some 105 := aA_hp (i := 4) (h.at 100) (by decide) (by decide) (by decide)
theorem x100_m5 (h : Sk S) : aA (hp S m q) 100 (J 5) = some 106 := aA_hp (i := 5) (h.at 100) (by decide) (by decide) (by decide)
theorem x101_g (h : Sk S) (h0 : 0 ≤ i) (h1 : i < 5) : aI (hp S m q) 101 (J i) = some (J (m 101 i)) := aI_hp (h.at 101) (by decide) h0 h1
theorem x101_s (h : Sk S) (h0 : 0 ≤ i) (h1 : i < 5) : sI (hp S m q) 101 (J i) (J x) = some (hp S (up m 101 i x) q) := sI_hp (h.at 101) (by decide) h0 h1
theorem x101_l (h : Sk S) : aL (hp S m q) 101 = some (J 5) := aL_hp (h.at 101)
theorem x102_g (h : Sk S) (h0 : 0 ≤ i) (h1 : i < 5) : aI (hp S m q) 102 (J i) = some (J (m 102 i)) := aI_hp (h.at 102) (by decide) h0 h1
theorem x102_s (h : Sk S) (h0 : 0 ≤ i) (h1 : i < 5) : sI (hp S m q) 102 (J i) (J x) = some (hp S (up m 102 i x) q) := sI_hp (h.at 102) (by decide) h0 h1
theorem x102_l (h : Sk S) : aL (hp S m q) 102 = some (J 5) := aL_hp (h.at 102)
theorem x103_g (h : Sk S) (h0 : 0 ≤ i) (h1 : i < 5) : aI (hp S m q) 103 (J i) = some (J (m 103 i)) := aI_hp (h.at 103) (by decide) h0 h1
theorem x103_s (h : Sk S) (h0 : 0 ≤ i) (h1 : i < 5) : sI (hp S m q) 103 (J i) (J x) = some (hp S (up m 103 i x) q) := sI_hp (h.at 103) (by decide) h0 h1
theorem x103_l (h : Sk S) : aL (hp S m q) 103 = some (J 5) := aL_hp (h.at 103)
theorem x104_g (h : Sk S) (h0 : 0 ≤ i) (h1 : i < 5) : aI (hp S m q) 104 (J i) = some (J (m 104 i)) := aI_hp (h.at 104) (by decide) h0 h1
theorem x104_s (h : Sk S) (h0 : 0 ≤ i) (h1 : i < 5) : sI (hp S m q) 104 (J i) (J x) = some (hp S (up m 104 i x) q) := sI_hp (h.at 104) (by decide) h0 h1
theorem x104_l (h : Sk S) : aL (hp S m q) 104 = some (J 5) := aL_hp (h.at 104)
theorem x105_g (h : Sk S) (h0 : 0 ≤ i) (h1 : i < 5) : aI (hp S m q) 105 (J i) = some (J (m 105 i)) := aI_hp (h.at 105) (by decide) h0 h1
theorem x105_s (h : Sk S) (h0 : 0 ≤ i) (h1 : i < 5) : sI (hp S m q) 105 (J i) (J x) = some (hp S (up m 105 i x) q) := sI_hp (h.at 105) (by decide) h0 h1
theorem x105_l (h : Sk S) : aL (hp S m q) 105 = some (J 5) := aL_hp (h.at 105)
theorem x106_g (h : Sk S) (h0 : 0 ≤ i) (h1 : i < 5) : aI (hp S m q) 106 (J i) = some (J (m 106 i)) := aI_hp (h.at 106) (by decide) h0 h1
theorem x106_s (h : Sk S) (h0 : 0 ≤ i) (h1 : i < 5) : sI (hp S m q) 106 (J i) (J x) = some (hp S (up m 106 i x) q) := sI_hp (h.at 106) (by decide) h0 h1
theorem x106_l (h : Sk S) : aL (hp S m q) 106 = some (J 5) := aL_hp (h.at 106)
theorem x107_g (h : Sk S) (h0 : 0 ≤ i) (h1 : i < 4) : aI (hp S m q) 107 (J i) = some (J (m 107 i)) := aI_hp (h.at 107) (by decide) h0 h1
theorem x107_s (h : Sk S) (h0 : 0 ≤ i) (h1 : i < 4) : sI (hp S m q) 107 (J i) (J x) = some (hp S (up m 107 i x) q) := sI_hp (h.at 107) (by decide) h0 h1
theorem x107_l (h : Sk S) : aL (hp S m q) 107 = some (J 4) := aL_hp (h.at 107)
theorem x108_g (h : Sk S) (h0 : 0 ≤ i) (h1 : i < 4) : aI (hp S m q) 108 (J i) = some (J (m 108 i)) := aI_hp (h.at 108) (by decide) h0 h1
theorem x108_s (h : Sk S) (h0 : 0 ≤ i) (h1 : i < 4) : sI (hp S m q) 108 (J i) (J x) = some (hp S (up m 108 i x) q) := sI_hp (h.at 108) (by decide) h0 h1
theorem x108_l (h : Sk S) : aL (hp S m q) 108 = some (J 4) := aL_hp (h.at 108)
theorem x109_g (h : Sk S) (h0 : 0 ≤ i) (h1 : i < 4) : aI (hp S m q) 109 (J i) = some (J (m 109 i)) := aI_hp (h.at 109) (by decide) h0 h1
theorem x109_s (h : Sk S) (h0 : 0 ≤ i) (h1 : i < 4) : sI (hp S m q) 109 (J i) (J x) = some (hp S (up m 109 i x) q) := sI_hp (h.at 109) (by decide) h0 h1
theorem x109_l (h : Sk S) : aL (hp S m q) 109 = some (J 4) := aL_hp (h.at 109)
theorem x110_g (h : Sk S) (h0 : 0 ≤ i) (h1 : i < 4) : aI (hp S m q) 110 (J i) = some (J (m 110 i)) := aI_hp (h.at 110) (by decide) h0 h1
theorem x110_s (h : Sk S) (h0 : 0 ≤ i) (h1 : i < 4) : sI (hp S m q) 110 (J i) (J x) = some (hp S (up m 110 i x) q) := sI_hp (h.at 110) (by decide) h0 h1
theorem x110_l (h : Sk S) : aL (hp S m q) 110 = some (J 4) := aL_hp (h.at 110)
theorem x112_m (h : Sk S) (h0 : 0 ≤ i) (h1 : i < 8) : aA (hp S m q) 112 (J i) = some (112 + 1 + i.toNat) := aA_hp (h.at 112) (by decide) h0 h1
theorem x112_l (h : Sk S) : aL (hp S m q) 112 = some (J 8) := aLM_hp (h.at 112)
theorem x112_m0 (h : Sk S) : aA (hp S m q) 112 (J 0) = some 113 := aA_hp (i := 0) (h.at 112) (by decide) (by decide) (by decide)
theorem x112_m1 (h : Sk S) : aA (hp S m q) 112 (J 1) = some 114 := aA_hp (i := 1) (h.at 112) (by decide) (by decide) (by decide)
theorem x112_m2 (h : Sk S) : aA (hp S m q) 112 (J 2) = some 115 := aA_hp (i := 2) (h.at 112) (by decide) (by decide) (by decide)
theorem x112_m3 (h : Sk S) : aA (hp S m q) 112 (J 3) = some 116 := aA_hp (i := 3) (h.at 112) (by decide) (by decide) (by decide)
theorem x112_m4 (h : Sk S) : aA (hp S m q) 112 (J 4) = some 117 := aA_hp (i := 4) (h.at 112) (by decide) (by decide) (by decide)
theorem x112_m5 (h : Sk S) : aA (hp S m q) 112 (J 5) = some 118 := aA_hp (i := 5) (h.at 112) (by decide) (by decide) (by decide)
theorem x112_m6 (h : Sk S) : aA (hp S m q) 112 (J 6) = some 119 := aA_hp (i := 6) (h.at 112) (by decide) (by decide) (by decide)
theorem x112_m7 (h : Sk S) : aA (hp S m q) 112 (J 7) = some 120 := aA_hp (i := 7) (h.at 112) (by decide) (by decide) (by decide)
theorem x113_g (h : Sk S) (h0 : 0 ≤ i) (h1 : i < 10) : aI (hp S m q) 113 (J i) = some (J (m 113 i)) := aI_hp (h.at 113) (by decide) h0 h1
theorem x113_s (h : Sk S) (h0 : 0 ≤ i) (h1 : i < 10) : sI (hp S m q) 113 (J i) (J x) = some (hp S (up m 113 i x) q) := sI_hp (h.at 113) (by decide) h0 h1
theorem x113_l (h : Sk S) : aL (hp S m q) 113 = some (J 10) := aL_hp (h.at 113)
theorem x114_g (h : Sk S) (h0 : 0 ≤ i) (h1 : i < 10) : aI (hp S m q) 114 (J i) = some (J (m 114 i)) := aI_hp (h.at 114) (by decide) h0 h1
theorem x114_s (h : Sk S) (h0 : 0 ≤ i) (h1 : i < 10) : sI (hp S m q) 114 (J i) (J x) = some (hp S (up m 114 i x) q) := sI_hp (h.at 114) (by decide) h0 h1
theorem x114_l (h : Sk S) : aL (hp S m q) 114 = some (J 10) := aL_hp (h.at 114)
theorem x115_g (h : Sk S) (h0 : 0 ≤ i) (h1 : i < 10) : aI (hp S m q) 115 (J i) = some (J (m 115 i)) := aI_hp (h.at 115) (by decide) h0 h1
theorem x115_s (h : Sk S) (h0 : 0 ≤ i) (h1 : i < 10) : sI (hp S m q) 115 (J i) (J x) = some (hp S (up m 115 i x) q) := sI_hp (h.at 115) (by decide) h0 h1
theorem x115_l (h : Sk S) : aL (hp S m q) 115 = some (J 10) := aL_hp (h.at 115)
theorem x116_g (h : Sk S) (h0 : 0 ≤ i) (h1 : i < 10) : aI (hp S m q) 116 (J i) = some (J (m 116 i)) := aI_hp (h.at 116) (by decide) h0 h1
theorem x116_s (h : Sk S) (h0 : 0 ≤ i) (h1 : i < 10) : sI (hp S m q) 116 (J i) (J x) = some (hp S (up m 116 i x) q) := sI_hp (h.at 116) (by decide) h0 h1
theorem x116_l (h : Sk S) : aL (hp S m q) 116 = some (J 10) := aL_hp (h.at 116)
theorem x117_g (h : Sk S) (h0 : 0 ≤ i) (h1 : i < 10) : aI (hp S m q) 117 (J i) = some (J (m 117 i)) := aI_hp (h.at 117) (by decide) h0 h1
theorem x117_s (h : Sk S) (h0 : 0 ≤ i) (h1 : i < 10) : sI (hp S m q) 117 (J i) (J x) = some (hp S (up m 117 i x) q) := sI_hp (h.at 117) (by decide) h0 h1
theorem x117_l (h : Sk S) : aL (hp S m q) 117 = some (J 10) := aL_hp (h.at 117)
theorem x118_g (h : Sk S) (h0 : 0 ≤ i) (h1 : i < 10) : aI (hp S m q) 118 (J i) = some (J (m 118 i)) := aI_hp (h.at 118) (by decide) h0 h1
theorem x118_s (h : Sk S) (h0 : 0 ≤ i) (h1 : i < 10) : sI (hp S m q) 118 (J i) (J x) = some (hp S (up m 118 i x) q) := sI_hp (h.at 118) (by decide) h0 h1
theorem x118_l (h : Sk S) : aL (hp S m q) 118 = some (J 10) := aL_hp (h.at 118)
theorem x119_g (h : Sk S) (h0 : 0 ≤ i) (h1 : i < 10) : aI (hp S m q) 119 (J i) = some (J (m 119 i)) := aI_hp (h.at 119) (by decide) h0 h1
theorem x119_s (h : Sk S) (h0 : 0 ≤ i) (h1 : i < 10) : sI (hp S m q) 119 (J i) (J x) = some (hp S (up m 119 i x) q) := sI_hp (h.at 119) (by decide) h0 h1
theorem x119_l (h : Sk S) : aL (hp S m q) 119 = some (J 10) := aL_hp (h.at 119)
theorem x120_g (h : Sk S) (h0 : 0 ≤ i) (h1 : i < 10) : aI (hp S m q) 120 (J i) = some (J (m 120 i)) := aI_hp (h.at 120) (by decide) h0 h1
theorem x120_s (h : Sk S) (h0 : 0 ≤ i) (h1 : i < 10) : sI (hp S m q) 120 (J i) (J x) = some (hp S (up m 120 i x) q) := sI_hp (h.at 120) (by decide) h0 h1
theorem x120_l (h : Sk S) : aL (hp S m q) 120 = some (J 10) := aL_hp (h.at 120)
theorem x121_m (h : Sk S) (h0 : 0 ≤ i) (h1 : i < 4) : aA (hp S m q) 121 (J i) = some (121 + 1 + i.toNat) := aA_hp (h.at 121) (by decide) h0 h1
theorem x121_l (h : Sk S) : aL (hp S m q) 121 = some (J 4) := aLM_hp (h.at 121)
theorem x121_m0 (h : Sk S) : aA (hp S m q) 121 (J 0) = some 122 := aA_hp (i := 0) (h.at 121) (by decide) (by decide) (by decide)
theorem x121_m1 (h : Sk S) : aA (hp S m q) 121 (J 1) = some 123 := aA_hp (i := 1) (h.at 121) (by decide) (by decide) (by decide)
theorem x121_m2 (h : Sk S) : aA (hp S m q) 121 (J 2) = some 124 := aA_hp (i := 2) (h.at 121) (by decide) (by decide) (by decide)
theorem x121_m3 (h : Sk S) : aA (hp S m q) 121 (J 3) = some 125 := aA_hp (i := 3) (h.at 121) (by decide) (by decide) (by decide)
theorem x122_g (h : Sk S) (h0 : 0 ≤ i) (h1 : i < 300) : aI (hp S m q) 122 (J i) = some (J (m 122 i)) := aI_hp (h.at 122) (by decide) h0 h1
theorem x122_s (h : Sk S) (h0 : 0 ≤ i) (h1 : i < 300) : sI (hp S m q) 122 (J i) (J x) = some (hp S (up m 122 i x) q) := sI_hp (h.at 122) (by decide) h0 h1
theorem x122_l (h : Sk S) : aL (hp S m q) 122 = some (J 300) := aL_hp (h.at 122)
theorem x123_g (h : Sk S) (h0 : 0 ≤ i) (h1 : i < 300) : aI (hp S m q) 123 (J i) = some (J (m 123 i)) := aI_hp (h.at 123) (by decide) h0 h1
theorem x123_s (h : Sk S) (h0 : 0 ≤ i) (h1 : i < 300) : sI (hp S m q) 123 (J i) (J x) = some (hp S (up m 123 i x) q) := sI_hp (h.at 123) (by decide) h0 h1
theorem x123_l (h : Sk S) : aL (hp S m q) 123 = some (J 300) := aL_hp (h.at 123)
theorem x124_g (h : Sk S) (h0 : 0 ≤ i) (h1 : i < 300) : aI (hp S m q) 124 (J i) = some (J (m 124 i)) := aI_hp (h.at 124) (by decide) h0 h1
theorem x124_s (h : Sk S) (h0 : 0 ≤ i) (h1 : i < 300) : sI (hp S m q) 124 (J i) (J x) = some (hp S (up m 124 i x) q) := sI_hp (h.at 124) (by decide) h0 h1
theorem x124_l (h : Sk S) : aL (hp S m q) 124 = some (J 300) := aL_hp (h.at 124)
theorem x125_g (h : Sk S) (h0 : 0 ≤ i) (h1 : i < 300) : aI (hp S m q) 125 (J i) = some (J (m 125 i)) := aI_hp (h.at 125) (by decide) h0 h1
theorem x125_s (h : Sk S) (h0 : 0 ≤ i) (h1 : i < 300) : sI (hp S m q) 125 (J i) (J x) = some (hp S (up m 125 i x) q) := sI_hp (h.at 125) (by decide) h0 h1
theorem x125_l (h : Sk S) : aL (hp S m q) 125 = some (J 300) := aL_hp (h.at 125)
theorem x126_g (h : Sk S) (h0 : 0 ≤ i) (h1 : i < 300) : aJ (hp S m q) 126 (J i) = some (q 126 i) := aJ_hp (h.at 126) (by decide) h0 h1
theorem x126_s (h : Sk S) {y : Int64} (h0 : 0 ≤ i) (h1 : i < 300) : sJ (hp S m q) 126 (J i) y = some (hp S m (uq q 126 i y)) := sJ_hp (h.at 126) (by decide) h0 h1
theorem x126_l (h : Sk S) : aL (hp S m q) 126 = some (J 300) := aLJ_hp (h.at 126)
theorem x127_g (h : Sk S) (h0 : 0 ≤ i) (h1 : i < 10) : aI (hp S m q) 127 (J i) = some (J (m 127 i)) := aI_hp (h.at 127) (by decide) h0 h1
theorem x127_s (h : Sk S) (h0 : 0 ≤ i) (h1 : i < 10) : sI (hp S m q) 127 (J i) (J x) = some (hp S (up m 127 i x) q) := sI_hp (h.at 127) (by decide) h0 h1
theorem x127_l (h : Sk S) : aL (hp S m q) 127 = some (J 10) := aL_hp (h.at 127)
theorem x128_g (h : Sk S) (h0 : 0 ≤ i) (h1 : i < 30) : aI (hp S m q) 128 (J i) = some (J (m 128 i)) := aI_hp (h.at 128) (by decide) h0 h1
theorem x128_s (h : Sk S) (h0 : 0 ≤ i) (h1 : i < 30) : sI (hp S m q) 128 (J i) (J x) = some (hp S (up m 128 i x) q) := sI_hp (h.at 128) (by decide) h0 h1
theorem x128_l (h : Sk S) : aL (hp S m q) 128 = some (J 30) := aL_hp (h.at 128)
theorem x129_g (h : Sk S) (h0 : 0 ≤ i) (h1 : i < 30) : aI (hp S m q) 129 (J i) = some (J (m 129 i)) := aI_hp (h.at 129) (by decide) h0 h1
theorem x129_s (h : Sk S) (h0 : 0 ≤ i) (h1 : i < 30) : sI (hp S m q) 129 (J i) (J x) = some (hp S (up m 129 i x) q) := sI_hp (h.at 129) (by decide) h0 h1
theorem x129_l (h : Sk S) : aL (hp S m q) 129 = some (J 30) := aL_hp (h.at 129)
theorem x130_g (h : Sk S) (h0 : 0 ≤ i) (h1 : i < 30) : aI (hp S m q) 130 (J i) = some (J (m 130 i)) := aI_hp (h.at 130) (by decide) h0 h1
theorem x130_s (h : Sk S) (h0 : 0 ≤ i) (h1 : i < 30) : sI (hp S m q) 130 (J i) (J x) = some (hp S (up m 130 i x) q) := sI_hp (h.at 130) (by decide) h0 h1
theorem x130_l (h : Sk S) : aL (hp S m q) 130 = some (J 30) := aL_hp (h.at 130)
theorem x131_g (h : Sk S) (h0 : 0 ≤ i) (h1 : i < 30) : aJ (hp S m q) 131 (J i) = some (q 131 i) := aJ_hp (h.at 131) (by decide) h0 h1
theorem x131_s (h : Sk S) {y : Int64} (h0 : 0 ≤ i) (h1 : i < 30) : sJ (hp S m q) 131 (J i) y = some (hp S m (uq q 131 i y)) := sJ_hp (h.at 131) (by decide) h0 h1
theorem x131_l (h : Sk S) : aL (hp S m q) 131 = some (J 30) := aLJ_hp (h.at 131)
theorem x132_g (h : Sk S) (h0 : 0 ≤ i) (h1 : i < 10) : aI (hp S m q) 132 (J i) = some (J (m 132 i)) := aI_hp (h.at 132) (by decide) h0 h1
theorem x132_s (h : Sk S) (h0 : 0 ≤ i) (h1 : i < 10) : sI (hp S m q) 132 (J i) (J x) = some (hp S (up m 132 i x) q) := sI_hp (h.at 132) (by decide) h0 h1
theorem x132_l (h : Sk S) : aL (hp S m q) 132 = some (J 10) := aL_hp (h.at 132)
theorem x133_k (h : Sk S) : kO (hp S m q) 133 6 = some () := kO_hp (h.at 133)
theorem x133_r0 (h : Sk S) : rA (hp S m q) 133 6 0 = some 16 := rA_hp (h.at 133) rfl
theorem x133_r1 (h : Sk S) : rA (hp S m q) 133 6 1 = some 46 := rA_hp (h.at 133) rfl
theorem x133_r2 (h : Sk S) : rA (hp S m q) 133 6 2 = some 134 := rA_hp (h.at 133) rfl
theorem x133_r3 (h : Sk S) : rA (hp S m q) 133 6 3 = some 135 := rA_hp (h.at 133) rfl
theorem x133_i4 (h : Sk S) : rI (hp S m q) 133 6 4 = some (J (m 133 4)) := rI_hp (h.at 133) rfl
theorem x133_w4 (h : Sk S) : wV (hp S m q) 133 6 4 (.int (J x)) = some (hp S (up m 133 4 x) q) := wV_hp (h.at 133) rfl
theorem x134_g (h : Sk S) (h0 : 0 ≤ i) (h1 : i < 30) : aI (hp S m q) 134 (J i) = some (J (m 134 i)) := aI_hp (h.at 134) (by decide) h0 h1
theorem x134_s (h : Sk S) (h0 : 0 ≤ i) (h1 : i < 30) : sI (hp S m q) 134 (J i) (J x) = some (hp S (up m 134 i x) q) := sI_hp (h.at 134) (by decide) h0 h1
theorem x134_l (h : Sk S) : aL (hp S m q) 134 = some (J 30) := aL_hp (h.at 134)
theorem x135_g (h : Sk S) (h0 : 0 ≤ i) (h1 : i < 10) : aI (hp S m q) 135 (J i) = some (J (m 135 i)) := aI_hp (h.at 135) (by decide) h0 h1
theorem x135_s (h : Sk S) (h0 : 0 ≤ i) (h1 : i < 10) : sI (hp S m q) 135 (J i) (J x) = some (hp S (up m 135 i x) q) := sI_hp (h.at 135) (by decide) h0 h1
theorem x135_l (h : Sk S) : aL (hp S m q) 135 = some (J 10) := aL_hp (h.at 135)
theorem x136_k (h : Sk S) : kO (hp S m q) 136 11 = some () := kO_hp (h.at 136)
theorem x136_i0 (h : Sk S) : rI (hp S m q) 136 11 0 = some (J (m 136 0)) := rI_hp (h.at 136) rfl
theorem x136_w0 (h : Sk S) : wV (hp S m q) 136 11 0 (.int (J x)) = some (hp S (up m 136 0 x) q) := wV_hp (h.at 136) rfl
theorem x136_r1 (h : Sk S) : rA (hp S m q) 136 11 1 = some 137 := rA_hp (h.at 136) rfl
theorem x136_r2 (h : Sk S) : rA (hp S m q) 136 11 2 = some 138 := rA_hp (h.at 136) rfl
theorem x136_r3 (h : Sk S) : rA (hp S m q) 136 11 3 = some 139 := rA_hp (h.at 136) rfl
theorem x136_r4 (h : Sk S) : rA (hp S m q) 136 11 4 = some 140 := rA_hp (h.at 136) rfl
theorem x136_i5 (h : Sk S) : rI (hp S m q) 136 11 5 = some (J (m 136 5)) := rI_hp (h.at 136) rfl
theorem x136_w5 (h : Sk S) : wV (hp S m q) 136 11 5 (.int (J x)) = some (hp S (up m 136 5 x) q) := wV_hp (h.at 136) rfl
theorem x136_i6 (h : Sk S) : rI (hp S m q) 136 11 6 = some (J (m 136 6)) := rI_hp (h.at 136) rfl
theorem x136_w6 (h : Sk S) : wV (hp S m q) 136 11 6 (.int (J x)) = some (hp S (up m 136 6 x) q) := wV_hp (h.at 136) rfl
theorem x136_i7 (h : Sk S) : rI (hp S m q) 136 11 7 = some (J (m 136 7)) := rI_hp (h.at 136) rfl
theorem x136_w7 (h : Sk S) : wV (hp S m q) 136 11 7 (.int (J x)) = some (hp S (up m 136 7 x) q) := wV_hp (h.at 136) rfl
theorem x136_r8 (h : Sk S) : rA (hp S m q) 136 11 8 = some 141 := rA_hp (h.at 136) rfl
theorem x136_i9 (h : Sk S) : rI (hp S m q) 136 11 9 = some (J (m 136 9)) := rI_hp (h.at 136) rfl
theorem x136_w9 (h : Sk S) : wV (hp S m q) 136 11 9 (.int (J x)) = some (hp S (up m 136 9 x) q) := wV_hp (h.at 136) rfl
theorem x136_i10 (h : Sk S) : rI (hp S m q) 136 11 10 = some (J (m 136 10)) := rI_hp (h.at 136) rfl
theorem x136_w10 (h : Sk S) : wV (hp S m q) 136 11 10 (.int (J x)) = some (hp S (up m 136 10 x) q) := wV_hp (h.at 136) rfl
theorem x136_i11 (h : Sk S) : rI (hp S m q) 136 11 11 = some (J (m 136 11)) := rI_hp (h.at 136) rfl
theorem x136_w11 (h : Sk S) : wV (hp S m q) 136 11 11 (.int (J x)) = some (hp S (up m 136 11 x) q) := wV_hp (h.at 136) rfl
theorem x136_i12 (h : Sk S) : rI (hp S m q) 136 11 12 = some (J (m 136 12)) := rI_hp (h.at 136) rfl
theorem x136_w12 (h : Sk S) : wV (hp S m q) 136 11 12 (.int (J x)) = some (hp S (up m 136 12 x) q) := wV_hp (h.at 136) rfl
theorem x136_i13 (h : Sk S) : rI (hp S m q) 136 11 13 = some (J (m 136 13)) := rI_hp (h.at 136) rfl
theorem x136_w13 (h : Sk S) : wV (hp S m q) 136 11 13 (.int (J x)) = some (hp S (up m 136 13 x) q) := wV_hp (h.at 136) rfl
theorem x136_i14 (h : Sk S) : rI (hp S m q) 136 11 14 = some (J (m 136 14)) := rI_hp (h.at 136) rfl
theorem x136_w14 (h : Sk S) : wV (hp S m q) 136 11 14 (.int (J x)) = some (hp S (up m 136 14 x) q) := wV_hp (h.at 136) rfl
theorem x136_r15 (h : Sk S) : rA (hp S m q) 136 11 15 = some 142 := rA_hp (h.at 136) rfl
theorem x136_i16 (h : Sk S) : rI (hp S m q) 136 11 16 = some (J (m 136 16)) := rI_hp (h.at 136) rfl
theorem x136_w16 (h : Sk S) : wV (hp S m q) 136 11 16 (.int (J x)) = some (hp S (up m 136 16 x) q) := wV_hp (h.at 136) rfl
theorem x136_r17 (h : Sk S) : rA (hp S m q) 136 11 17 = some 143 := rA_hp (h.at 136) rfl
theorem x136_r18 (h : Sk S) : rA (hp S m q) 136 11 18 = some 144 := rA_hp (h.at 136) rfl
theorem x136_r19 (h : Sk S) : rA (hp S m q) 136 11 19 = some 145 := rA_hp (h.at 136) rfl
theorem x136_r20 (h : Sk S) : rA (hp S m q) 136 11 20 = some 146 := rA_hp (h.at 136) rfl
theorem x136_r21 (h : Sk S) : rA (hp S m q) 136 11 21 = some 147 := rA_hp (h.at 136) rfl
theorem x136_i22 (h : Sk S) : rI (hp S m q) 136 11 22 = some (J (m 136 22)) := rI_hp (h.at 136) rfl
theorem x136_w22 (h : Sk S) : wV (hp S m q) 136 11 22 (.int (J x)) = some (hp S (up m 136 22 x) q) := wV_hp (h.at 136) rfl
theorem x136_r23 (h : Sk S) : rA (hp S m q) 136 11 23 = some 148 := rA_hp (h.at 136) rfl
theorem x136_r24 (h : Sk S) : rA (hp S m q) 136 11 24 = some 149 := rA_hp (h.at 136) rfl
theorem x136_i25 (h : Sk S) : rI (hp S m q) 136 11 25 = some (J (m 136 25)) := rI_hp (h.at 136) rfl
theorem x136_w25 (h : Sk S) : wV (hp S m q) 136 11 25 (.int (J x)) = some (hp S (up m 136 25 x) q) := wV_hp (h.at 136) rfl
theorem x136_i26 (h : Sk S) : rI (hp S m q) 136 11 26 = some (J (m 136 26)) := rI_hp (h.at 136) rfl
theorem x136_w26 (h : Sk S) : wV (hp S m q) 136 11 26 (.int (J x)) = some (hp S (up m 136 26 x) q) := wV_hp (h.at 136) rfl
theorem x136_r27 (h : Sk S) : rA (hp S m q) 136 11 27 = some 150 := rA_hp (h.at 136) rfl
theorem x136_r28 (h : Sk S) : rA (hp S m q) 136 11 28 = some 151 := rA_hp (h.at 136) rfl
theorem x136_i29 (h : Sk S) : rI (hp S m q) 136 11 29 = some (J (m 136 29)) := rI_hp (h.at 136) rfl
theorem x136_w29 (h : Sk S) : wV (hp S m q) 136 11 29 (.int (J x)) = some (hp S (up m 136 29 x) q) := wV_hp (h.at 136) rfl
theorem x137_g (h : Sk S) (h0 : 0 ≤ i) (h1 : i < 2301) : aI (hp S m q) 137 (J i) = some (J (m 137 i)) := aI_hp (h.at 137) (by decide) h0 h1
theorem x137_s (h : Sk S) (h0 : 0 ≤ i) (h1 : i < 2301) : sI (hp S m q) 137 (J i) (J x) = some (hp S (up m 137 i x) q) := sI_hp (h.at 137) (by decide) h0 h1
theorem x137_l (h : Sk S) : aL (hp S m q) 137 = some (J 2301) := aL_hp (h.at 137)
theorem x138_g (h : Sk S) (h0 : 0 ≤ i) (h1 : i < 2301) : aI (hp S m q) 138 (J i) = some (J (m 138 i)) := aI_hp (h.at 138) (by decide) h0 h1
theorem x138_s (h : Sk S) (h0 : 0 ≤ i) (h1 : i < 2301) : sI (hp S m q) 138 (J i) (J x) = some (hp S (up m 138 i x) q) := sI_hp (h.at 138) (by decide) h0 h1
theorem x138_l (h : Sk S) : aL (hp S m q) 138 = some (J 2301) := aL_hp (h.at 138)
theorem x139_g (h : Sk S) (h0 : 0 ≤ i) (h1 : i < 5921) : aI (hp S m q) 139 (J i) = some (J (m 139 i)) := aI_hp (h.at 139) (by decide) h0 h1
theorem x139_s (h : Sk S) (h0 : 0 ≤ i) (h1 : i < 5921) : sI (hp S m q) 139 (J i) (J x) = some (hp S (up m 139 i x) q) := sI_hp (h.at 139) (by decide) h0 h1
theorem x139_l (h : Sk S) : aL (hp S m q) 139 = some (J 5921) := aL_hp (h.at 139)
theorem x140_g (h : Sk S) (h0 : 0 ≤ i) (h1 : i < 7381) : aI (hp S m q) 140 (J i) = some (J (m 140 i)) := aI_hp (h.at 140) (by decide) h0 h1
theorem x140_s (h : Sk S) (h0 : 0 ≤ i) (h1 : i < 7381) : sI (hp S m q) 140 (J i) (J x) = some (hp S (up m 140 i x) q) := sI_hp (h.at 140) (by decide) h0 h1
theorem x140_l (h : Sk S) : aL (hp S m q) 140 = some (J 7381) := aL_hp (h.at 140)
theorem x141_g (h : Sk S) (h0 : 0 ≤ i) (h1 : i < 400) : aB (hp S m q) 141 (J i) = some (J (m 141 i)) := aB_hp (h.at 141) (by decide) h0 h1
theorem x141_s (h : Sk S) (h0 : 0 ≤ i) (h1 : i < 400) : sB (hp S m q) 141 (J i) (J x) = some (hp S (up m 141 i (b8 x)) q) := sB_hp (h.at 141) (by decide) h0 h1
theorem x141_l (h : Sk S) : aL (hp S m q) 141 = some (J 400) := aLB_hp (h.at 141)
theorem x142_g (h : Sk S) (h0 : 0 ≤ i) (h1 : i < 5) : aI (hp S m q) 142 (J i) = some (J (m 142 i)) := aI_hp (h.at 142) (by decide) h0 h1
theorem x142_s (h : Sk S) (h0 : 0 ≤ i) (h1 : i < 5) : sI (hp S m q) 142 (J i) (J x) = some (hp S (up m 142 i x) q) := sI_hp (h.at 142) (by decide) h0 h1
theorem x142_l (h : Sk S) : aL (hp S m q) 142 = some (J 5) := aL_hp (h.at 142)
theorem x143_g (h : Sk S) (h0 : 0 ≤ i) (h1 : i < 7) : aZ (hp S m q) 143 (J i) = some (J (m 143 i)) := aZ_hp (h.at 143) (by decide) h0 h1
theorem x143_s (h : Sk S) (h0 : 0 ≤ i) (h1 : i < 7) (hx : x = 0 ∨ x = 1) : sZ (hp S m q) 143 (J i) (J x) = some (hp S (up m 143 i x) q) := sZ_hp (h.at 143) (by decide) h0 h1 hx
theorem x144_g (h : Sk S) (h0 : 0 ≤ i) (h1 : i < 5) : aI (hp S m q) 144 (J i) = some (J (m 144 i)) := aI_hp (h.at 144) (by decide) h0 h1
theorem x144_s (h : Sk S) (h0 : 0 ≤ i) (h1 : i < 5) : sI (hp S m q) 144 (J i) (J x) = some (hp S (up m 144 i x) q) := sI_hp (h.at 144) (by decide) h0 h1
theorem x144_l (h : Sk S) : aL (hp S m q) 144 = some (J 5) := aL_hp (h.at 144)
theorem x145_g (h : Sk S) (h0 : 0 ≤ i) (h1 : i < 400) : aZ (hp S m q) 145 (J i) = some (J (m 145 i)) := aZ_hp (h.at 145) (by decide) h0 h1
theorem x145_s (h : Sk S) (h0 : 0 ≤ i) (h1 : i < 400) (hx : x = 0 ∨ x = 1) : sZ (hp S m q) 145 (J i) (J x) = some (hp S (up m 145 i x) q) := sZ_hp (h.at 145) (by decide) h0 h1 hx
theorem x146_g (h : Sk S) (h0 : 0 ≤ i) (h1 : i < 60) : aZ (hp S m q) 146 (J i) = some (J (m 146 i)) := aZ_hp (h.at 146) (by decide) h0 h1
theorem x146_s (h : Sk S) (h0 : 0 ≤ i) (h1 : i < 60) (hx : x = 0 ∨ x = 1) : sZ (hp S m q) 146 (J i) (J x) = some (hp S (up m 146 i x) q) := sZ_hp (h.at 146) (by decide) h0 h1 hx
theorem x147_g (h : Sk S) (h0 : 0 ≤ i) (h1 : i < 30) : aI (hp S m q) 147 (J i) = some (J (m 147 i)) := aI_hp (h.at 147) (by decide) h0 h1
theorem x147_s (h : Sk S) (h0 : 0 ≤ i) (h1 : i < 30) : sI (hp S m q) 147 (J i) (J x) = some (hp S (up m 147 i x) q) := sI_hp (h.at 147) (by decide) h0 h1
theorem x147_l (h : Sk S) : aL (hp S m q) 147 = some (J 30) := aL_hp (h.at 147)
theorem x148_g (h : Sk S) (h0 : 0 ≤ i) (h1 : i < 7) : aI (hp S m q) 148 (J i) = some (J (m 148 i)) := aI_hp (h.at 148) (by decide) h0 h1
theorem x148_s (h : Sk S) (h0 : 0 ≤ i) (h1 : i < 7) : sI (hp S m q) 148 (J i) (J x) = some (hp S (up m 148 i x) q) := sI_hp (h.at 148) (by decide) h0 h1
theorem x148_l (h : Sk S) : aL (hp S m q) 148 = some (J 7) := aL_hp (h.at 148)
theorem x149_g (h : Sk S) (h0 : 0 ≤ i) (h1 : i < 7) : aI (hp S m q) 149 (J i) = some (J (m 149 i)) := aI_hp (h.at 149) (by decide) h0 h1
theorem x149_s (h : Sk S) (h0 : 0 ≤ i) (h1 : i < 7) : sI (hp S m q) 149 (J i) (J x) = some (hp S (up m 149 i x) q) := sI_hp (h.at 149) (by decide) h0 h1
theorem x149_l (h : Sk S) : aL (hp S m q) 149 = some (J 7) := aL_hp (h.at 149)
theorem x150_g (h : Sk S) (h0 : 0 ≤ i) (h1 : i < 4) : aI (hp S m q) 150 (J i) = some (J (m 150 i)) := aI_hp (h.at 150) (by decide) h0 h1
theorem x150_s (h : Sk S) (h0 : 0 ≤ i) (h1 : i < 4) : sI (hp S m q) 150 (J i) (J x) = some (hp S (up m 150 i x) q) := sI_hp (h.at 150) (by decide) h0 h1
theorem x150_l (h : Sk S) : aL (hp S m q) 150 = some (J 4) := aL_hp (h.at 150)
theorem x151_g (h : Sk S) (h0 : 0 ≤ i) (h1 : i < 4) : aI (hp S m q) 151 (J i) = some (J (m 151 i)) := aI_hp (h.at 151) (by decide) h0 h1
theorem x151_s (h : Sk S) (h0 : 0 ≤ i) (h1 : i < 4) : sI (hp S m q) 151 (J i) (J x) = some (hp S (up m 151 i x) q) := sI_hp (h.at 151) (by decide) h0 h1
theorem x151_l (h : Sk S) : aL (hp S m q) 151 = some (J 4) := aL_hp (h.at 151)
theorem x152_g (h : Sk S) (h0 : 0 ≤ i) (h1 : i < 1) : aJ (hp S m q) 152 (J i) = some (q 152 i) := aJ_hp (h.at 152) (by decide) h0 h1
theorem x152_s (h : Sk S) {y : Int64} (h0 : 0 ≤ i) (h1 : i < 1) : sJ (hp S m q) 152 (J i) y = some (hp S m (uq q 152 i y)) := sJ_hp (h.at 152) (by decide) h0 h1
theorem x152_l (h : Sk S) : aL (hp S m q) 152 = some (J 1) := aLJ_hp (h.at 152)
theorem x0_k (h : Sk S) : kO (hp S m q) 0 10 = some () := by
  obtain ⟨-, ⟨v, hv⟩, -⟩ := h
  exact kO_hp hv
theorem x0_r0 (h : Sk S) : rA (hp S m q) 0 10 0 = some 1 := by
  obtain ⟨-, ⟨v, hv⟩, -⟩ := h
  exact rA_hp hv rfl
theorem x0_r1 (h : Sk S) : rA (hp S m q) 0 10 1 = some 9 := by
  obtain ⟨-, ⟨v, hv⟩, -⟩ := h
  exact rA_hp hv rfl
theorem x0_r2 (h : Sk S) : rA (hp S m q) 0 10 2 = some 111 := by
  obtain ⟨-, ⟨v, hv⟩, -⟩ := h
  exact rA_hp hv rfl
theorem x0_r3 (h : Sk S) : rA (hp S m q) 0 10 3 = some 133 := by
  obtain ⟨-, ⟨v, hv⟩, -⟩ := h
  exact rA_hp hv rfl
def RulS (S : xH) (a : Nat) : Prop := S.2.2 a = .inr (5, [.ref (a + 1), .ref (a + 2), .ref (a + 3), .int 0, .ref (a + 4), .int 0, .ref (a + 5), .int 0]) ∧ S.2.2 (a + 1) = aSh .int 10 ∧ S.2.2 (a + 2) = aSh .int 10 ∧ S.2.2 (a + 3) = aSh .int 11 ∧ S.2.2 (a + 4) = aSh .int 200 ∧ S.2.2 (a + 5) = aSh .int 5
theorem Rul0_k {a : Nat} (h : RulS S a) : kO (hp S m q) a 5 = some () := kO_hp (h.1)
theorem Rul0_r0 {a : Nat} (h : RulS S a) : rA (hp S m q) a 5 0 = some (a + 1) := rA_hp (h.1) rfl
theorem Rul0_r1 {a : Nat} (h : RulS S a) : rA (hp S m q) a 5 1 = some (a + 2) := rA_hp (h.1) rfl
theorem Rul0_r2 {a : Nat} (h : RulS S a) : rA (hp S m q) a 5 2 = some (a + 3) := rA_hp (h.1) rfl
theorem Rul0_i3 {a : Nat} (h : RulS S a) : rI (hp S m q) a 5 3 = some (J (m a 3)) := rI_hp (h.1) rfl
theorem Rul0_w3 {a : Nat} (h : RulS S a) : wV (hp S m q) a 5 3 (.int (J x)) = some (hp S (up m a 3 x) q) := wV_hp (h.1) rfl
theorem Rul0_r4 {a : Nat} (h : RulS S a) : rA (hp S m q) a 5 4 = some (a + 4) := rA_hp (h.1) rfl
theorem Rul0_i5 {a : Nat} (h : RulS S a) : rI (hp S m q) a 5 5 = some (J (m a 5)) := rI_hp (h.1) rfl
theorem Rul0_w5 {a : Nat} (h : RulS S a) : wV (hp S m q) a 5 5 (.int (J x)) = some (hp S (up m a 5 x) q) := wV_hp (h.1) rfl
theorem Rul0_r6 {a : Nat} (h : RulS S a) : rA (hp S m q) a 5 6 = some (a + 5) := rA_hp (h.1) rfl
theorem Rul0_i7 {a : Nat} (h : RulS S a) : rI (hp S m q) a 5 7 = some (J (m a 7)) := rI_hp (h.1) rfl
theorem Rul0_w7 {a : Nat} (h : RulS S a) : wV (hp S m q) a 5 7 (.int (J x)) = some (hp S (up m a 7 x) q) := wV_hp (h.1) rfl
theorem Rul1_g {a : Nat} (h : RulS S a) (h0 : 0 ≤ i) (h1 : i < 10) : aI (hp S m q) (a + 1) (J i) = some (J (m (a + 1) i)) := aI_hp (h.2.1) (by decide) h0 h1
theorem Rul1_s {a : Nat} (h : RulS S a) (h0 : 0 ≤ i) (h1 : i < 10) : sI (hp S m q) (a + 1) (J i) (J x) = some (hp S (up m (a + 1) i x) q) := sI_hp (h.2.1) (by decide) h0 h1
theorem Rul1_l {a : Nat} (h : RulS S a) : aL (hp S m q) (a + 1) = some (J 10) := aL_hp (h.2.1)
theorem Rul2_g {a : Nat} (h : RulS S a) (h0 : 0 ≤ i) (h1 : i < 10) : aI (hp S m q) (a + 2) (J i) = some (J (m (a + 2) i)) := aI_hp (h.2.2.1) (by decide) h0 h1
theorem Rul2_s {a : Nat} (h : RulS S a) (h0 : 0 ≤ i) (h1 : i < 10) : sI (hp S m q) (a + 2) (J i) (J x) = some (hp S (up m (a + 2) i x) q) := sI_hp (h.2.2.1) (by decide) h0 h1
theorem Rul2_l {a : Nat} (h : RulS S a) : aL (hp S m q) (a + 2) = some (J 10) := aL_hp (h.2.2.1)
theorem Rul3_g {a : Nat} (h : RulS S a) (h0 : 0 ≤ i) (h1 : i < 11) : aI (hp S m q) (a + 3) (J i) = some (J (m (a + 3) i)) := aI_hp (h.2.2.2.1) (by decide) h0 h1
theorem Rul3_s {a : Nat} (h : RulS S a) (h0 : 0 ≤ i) (h1 : i < 11) : sI (hp S m q) (a + 3) (J i) (J x) = some (hp S (up m (a + 3) i x) q) := sI_hp (h.2.2.2.1) (by decide) h0 h1
theorem Rul3_l {a : Nat} (h : RulS S a) : aL (hp S m q) (a + 3) = some (J 11) := aL_hp (h.2.2.2.1)
theorem Rul4_g {a : Nat} (h : RulS S a) (h0 : 0 ≤ i) (h1 : i < 200) : aI (hp S m q) (a + 4) (J i) = some (J (m (a + 4) i)) := aI_hp (h.2.2.2.2.1) (by decide) h0 h1
theorem Rul4_s {a : Nat} (h : RulS S a) (h0 : 0 ≤ i) (h1 : i < 200) : sI (hp S m q) (a + 4) (J i) (J x) = some (hp S (up m (a + 4) i x) q) := sI_hp (h.2.2.2.2.1) (by decide) h0 h1
theorem Rul4_l {a : Nat} (h : RulS S a) : aL (hp S m q) (a + 4) = some (J 200) := aL_hp (h.2.2.2.2.1)
theorem Rul5_g {a : Nat} (h : RulS S a) (h0 : 0 ≤ i) (h1 : i < 5) : aI (hp S m q) (a + 5) (J i) = some (J (m (a + 5) i)) := aI_hp (h.2.2.2.2.2) (by decide) h0 h1
theorem Rul5_s {a : Nat} (h : RulS S a) (h0 : 0 ≤ i) (h1 : i < 5) : sI (hp S m q) (a + 5) (J i) (J x) = some (hp S (up m (a + 5) i x) q) := sI_hp (h.2.2.2.2.2) (by decide) h0 h1
theorem Rul5_l {a : Nat} (h : RulS S a) : aL (hp S m q) (a + 5) = some (J 5) := aL_hp (h.2.2.2.2.2)
theorem Sk.Rul (h : Sk S) : RulS S 10 := ⟨h.at 10, h.at 11, h.at 12, h.at 13, h.at 14, h.at 15⟩
def WrdS (S : xH) (a : Nat) : Prop := S.2.2 a = .inr (9, [.ref (a + 1), .ref (a + 11), .ref (a + 12), .int 0]) ∧ S.2.2 (a + 1) = mSh 9 (a + 1) ∧ S.2.2 (a + 2) = aSh .int 30 ∧ S.2.2 (a + 3) = aSh .int 30 ∧ S.2.2 (a + 4) = aSh .int 30 ∧ S.2.2 (a + 5) = aSh .int 30 ∧ S.2.2 (a + 6) = aSh .int 30 ∧ S.2.2 (a + 7) = aSh .int 30 ∧ S.2.2 (a + 8) = aSh .int 30 ∧ S.2.2 (a + 9) = aSh .int 30 ∧ S.2.2 (a + 10) = aSh .int 30 ∧ S.2.2 (a + 11) = aSh .int 30 ∧ S.2.2 (a + 12) = aSh .int 30
theorem Wrd0_k {a : Nat} (h : WrdS S a) : kO (hp S m q) a 9 = some () := kO_hp (h.1)
theorem Wrd0_r0 {a : Nat} (h : WrdS S a) : rA (hp S m q) a 9 0 = some (a + 1) := rA_hp (h.1) rfl
theorem Wrd0_r1 {a : Nat} (h : WrdS S a) : rA (hp S m q) a 9 1 = some (a + 11) := rA_hp (h.1) rfl
theorem Wrd0_r2 {a : Nat} (h : WrdS S a) : rA (hp S m q) a 9 2 = some (a + 12) := rA_hp (h.1) rfl
theorem Wrd0_i3 {a : Nat} (h : WrdS S a) : rI (hp S m q) a 9 3 = some (J (m a 3)) := rI_hp (h.1) rfl
theorem Wrd0_w3 {a : Nat} (h : WrdS S a) : wV (hp S m q) a 9 3 (.int (J x)) = some (hp S (up m a 3 x) q) := wV_hp (h.1) rfl
theorem Wrd1_m {a : Nat} (h : WrdS S a) (h0 : 0 ≤ i) (h1 : i < 9) : aA (hp S m q) (a + 1) (J i) = some ((a + 1) + 1 + i.toNat) := aA_hp (h.2.1) (by decide) h0 h1
theorem Wrd1_l {a : Nat} (h : WrdS S a) : aL (hp S m q) (a + 1) = some (J 9) := aLM_hp (h.2.1)
theorem Wrd1_m0 {a : Nat} (h : WrdS S a) : aA (hp S m q) (a + 1) (J 0) = some (a + 2) := aA_hp (i := 0) (h.2.1) (by decide) (by decide) (by decide)
theorem Wrd1_m1 {a : Nat} (h : WrdS S a) : aA (hp S m q) (a + 1) (J 1) = some (a + 3) := aA_hp (i := 1) (h.2.1) (by decide) (by decide) (by decide)
theorem Wrd1_m2 {a : Nat} (h : WrdS S a) : aA (hp S m q) (a + 1) (J 2) = some (a + 4) := aA_hp (i := 2) (h.2.1) (by decide) (by decide) (by decide)
theorem Wrd1_m3 {a : Nat} (h : WrdS S a) : aA (hp S m q) (a + 1) (J 3) = some (a + 5) := aA_hp (i := 3) (h.2.1) (by decide) (by decide) (by decide)
theorem Wrd1_m4 {a : Nat} (h : WrdS S a) : aA (hp S m q) (a + 1) (J 4) = some (a + 6) := aA_hp (i := 4) (h.2.1) (by decide) (by decide) (by decide)
theorem Wrd1_m5 {a : Nat} (h : WrdS S a) : aA (hp S m q) (a + 1) (J 5) = some (a + 7) := aA_hp (i := 5) (h.2.1) (by decide) (by decide) (by decide)
theorem Wrd1_m6 {a : Nat} (h : WrdS S a) : aA (hp S m q) (a + 1) (J 6) = some (a + 8) := aA_hp (i := 6) (h.2.1) (by decide) (by decide) (by decide)
theorem Wrd1_m7 {a : Nat} (h : WrdS S a) : aA (hp S m q) (a + 1) (J 7) = some (a + 9) := aA_hp (i := 7) (h.2.1) (by decide) (by decide) (by decide)
theorem Wrd1_m8 {a : Nat} (h : WrdS S a) : aA (hp S m q) (a + 1) (J 8) = some (a + 10) := aA_hp (i := 8) (h.2.1) (by decide) (by decide) (by decide)
theorem Wrd2_g {a : Nat} (h : WrdS S a) (h0 : 0 ≤ i) (h1 : i < 30) : aI (hp S m q) (a + 2) (J i) = some (J (m (a + 2) i)) := aI_hp (h.2.2.1) (by decide) h0 h1
theorem Wrd2_s {a : Nat} (h : WrdS S a) (h0 : 0 ≤ i) (h1 : i < 30) : sI (hp S m q) (a + 2) (J i) (J x) = some (hp S (up m (a + 2) i x) q) := sI_hp (h.2.2.1) (by decide) h0 h1
theorem Wrd2_l {a : Nat} (h : WrdS S a) : aL (hp S m q) (a + 2) = some (J 30) := aL_hp (h.2.2.1)
theorem Wrd3_g {a : Nat} (h : WrdS S a) (h0 : 0 ≤ i) (h1 : i < 30) : aI (hp S m q) (a + 3) (J i) = some (J (m (a + 3) i)) := aI_hp (h.2.2.2.1) (by decide) h0 h1
theorem Wrd3_s {a : Nat} (h : WrdS S a) (h0 : 0 ≤ i) (h1 : i < 30) : sI (hp S m q) (a + 3) (J i) (J x) = some (hp S (up m (a + 3) i x) q) := sI_hp (h.2.2.2.1) (by decide) h0 h1
theorem Wrd3_l {a : Nat} (h : WrdS S a) : aL (hp S m q) (a + 3) = some (J 30) := aL_hp (h.2.2.2.1)
theorem Wrd4_g {a : Nat} (h : WrdS S a) (h0 : 0 ≤ i) (h1 : i < 30) : aI (hp S m q) (a + 4) (J i) = some (J (m (a + 4) i)) := aI_hp (h.2.2.2.2.1) (by decide) h0 h1
theorem Wrd4_s {a : Nat} (h : WrdS S a) (h0 : 0 ≤ i) (h1 : i < 30) : sI (hp S m q) (a + 4) (J i) (J x) = some (hp S (up m (a + 4) i x) q) := sI_hp (h.2.2.2.2.1) (by decide) h0 h1
theorem Wrd4_l {a : Nat} (h : WrdS S a) : aL (hp S m q) (a + 4) = some (J 30) := aL_hp (h.2.2.2.2.1)
theorem Wrd5_g {a : Nat} (h : WrdS S a) (h0 : 0 ≤ i) (h1 : i < 30) : aI (hp S m q) (a + 5) (J i) = some (J (m (a + 5) i)) := aI_hp (h.2.2.2.2.2.1) (by decide) h0 h1
theorem Wrd5_s {a : Nat} (h : WrdS S a) (h0 : 0 ≤ i) (h1 : i < 30) : sI (hp S m q) (a + 5) (J i) (J x) = some (hp S (up m (a + 5) i x) q) := sI_hp (h.2.2.2.2.2.1) (by decide) h0 h1
theorem Wrd5_l {a : Nat} (h : WrdS S a) : aL (hp S m q) (a + 5) = some (J 30) := aL_hp (h.2.2.2.2.2.1)
theorem Wrd6_g {a : Nat} (h : WrdS S a) (h0 : 0 ≤ i) (h1 : i < 30) : aI (hp S m q) (a + 6) (J i) = some (J (m (a + 6) i)) := aI_hp (h.2.2.2.2.2.2.1) (by decide) h0 h1
theorem Wrd6_s {a : Nat} (h : WrdS S a) (h0 : 0 ≤ i) (h1 : i < 30) : sI (hp S m q) (a + 6) (J i) (J x) = some (hp S (up m (a + 6) i x) q) := sI_hp (h.2.2.2.2.2.2.1) (by decide) h0 h1
theorem Wrd6_l {a : Nat} (h : WrdS S a) : aL (hp S m q) (a + 6) = some (J 30) := aL_hp (h.2.2.2.2.2.2.1)
theorem Wrd7_g {a : Nat} (h : WrdS S a) (h0 : 0 ≤ i) (h1 : i < 30) : aI (hp S m q) (a + 7) (J i) = some (J (m (a + 7) i)) := aI_hp (h.2.2.2.2.2.2.2.1) (by decide) h0 h1
theorem Wrd7_s {a : Nat} (h : WrdS S a) (h0 : 0 ≤ i) (h1 : i < 30) : sI (hp S m q) (a + 7) (J i) (J x) = some (hp S (up m (a + 7) i x) q) := sI_hp (h.2.2.2.2.2.2.2.1) (by decide) h0 h1
theorem Wrd7_l {a : Nat} (h : WrdS S a) : aL (hp S m q) (a + 7) = some (J 30) := aL_hp (h.2.2.2.2.2.2.2.1)
theorem Wrd8_g {a : Nat} (h : WrdS S a) (h0 : 0 ≤ i) (h1 : i < 30) : aI (hp S m q) (a + 8) (J i) = some (J (m (a + 8) i)) := aI_hp (h.2.2.2.2.2.2.2.2.1) (by decide) h0 h1
theorem Wrd8_s {a : Nat} (h : WrdS S a) (h0 : 0 ≤ i) (h1 : i < 30) : sI (hp S m q) (a + 8) (J i) (J x) = some (hp S (up m (a + 8) i x) q) := sI_hp (h.2.2.2.2.2.2.2.2.1) (by decide) h0 h1
theorem Wrd8_l {a : Nat} (h : WrdS S a) : aL (hp S m q) (a + 8) = some (J 30) := aL_hp (h.2.2.2.2.2.2.2.2.1)
theorem Wrd9_g {a : Nat} (h : WrdS S a) (h0 : 0 ≤ i) (h1 : i < 30) : aI (hp S m q) (a + 9) (J i) = some (J (m (a + 9) i)) := aI_hp (h.2.2.2.2.2.2.2.2.2.1) (by decide) h0 h1
theorem Wrd9_s {a : Nat} (h : WrdS S a) (h0 : 0 ≤ i) (h1 : i < 30) : sI (hp S m q) (a + 9) (J i) (J x) = some (hp S (up m (a + 9) i x) q) := sI_hp (h.2.2.2.2.2.2.2.2.2.1) (by decide) h0 h1
theorem Wrd9_l {a : Nat} (h : WrdS S a) : aL (hp S m q) (a + 9) = some (J 30) := aL_hp (h.2.2.2.2.2.2.2.2.2.1)
theorem Wrd10_g {a : Nat} (h : WrdS S a) (h0 : 0 ≤ i) (h1 : i < 30) : aI (hp S m q) (a + 10) (J i) = some (J (m (a + 10) i)) := aI_hp (h.2.2.2.2.2.2.2.2.2.2.1) (by decide) h0 h1
theorem Wrd10_s {a : Nat} (h : WrdS S a) (h0 : 0 ≤ i) (h1 : i < 30) : sI (hp S m q) (a + 10) (J i) (J x) = some (hp S (up m (a + 10) i x) q) := sI_hp (h.2.2.2.2.2.2.2.2.2.2.1) (by decide) h0 h1
theorem Wrd10_l {a : Nat} (h : WrdS S a) : aL (hp S m q) (a + 10) = some (J 30) := aL_hp (h.2.2.2.2.2.2.2.2.2.2.1)
theorem Wrd11_g {a : Nat} (h : WrdS S a) (h0 : 0 ≤ i) (h1 : i < 30) : aI (hp S m q) (a + 11) (J i) = some (J (m (a + 11) i)) := aI_hp (h.2.2.2.2.2.2.2.2.2.2.2.1) (by decide) h0 h1
theorem Wrd11_s {a : Nat} (h : WrdS S a) (h0 : 0 ≤ i) (h1 : i < 30) : sI (hp S m q) (a + 11) (J i) (J x) = some (hp S (up m (a + 11) i x) q) := sI_hp (h.2.2.2.2.2.2.2.2.2.2.2.1) (by decide) h0 h1
theorem Wrd11_l {a : Nat} (h : WrdS S a) : aL (hp S m q) (a + 11) = some (J 30) := aL_hp (h.2.2.2.2.2.2.2.2.2.2.2.1)
theorem Wrd12_g {a : Nat} (h : WrdS S a) (h0 : 0 ≤ i) (h1 : i < 30) : aI (hp S m q) (a + 12) (J i) = some (J (m (a + 12) i)) := aI_hp (h.2.2.2.2.2.2.2.2.2.2.2.2) (by decide) h0 h1
theorem Wrd12_s {a : Nat} (h : WrdS S a) (h0 : 0 ≤ i) (h1 : i < 30) : sI (hp S m q) (a + 12) (J i) (J x) = some (hp S (up m (a + 12) i x) q) := sI_hp (h.2.2.2.2.2.2.2.2.2.2.2.2) (by decide) h0 h1
theorem Wrd12_l {a : Nat} (h : WrdS S a) : aL (hp S m q) (a + 12) = some (J 30) := aL_hp (h.2.2.2.2.2.2.2.2.2.2.2.2)
theorem Sk.Wrd (h : Sk S) : WrdS S 16 := ⟨h.at 16, h.at 17, h.at 18, h.at 19, h.at 20, h.at 21, h.at 22, h.at 23, h.at 24, h.at 25, h.at 26, h.at 27, h.at 28⟩
def WlkS (S : xH) (a : Nat) : Prop := S.2.2 a = .inr (8, [.ref (a + 1), .ref (a + 6), .ref (a + 11), .ref (a + 16)]) ∧ S.2.2 (a + 1) = mSh 4 (a + 1) ∧ S.2.2 (a + 2) = aSh .int 60 ∧ S.2.2 (a + 3) = aSh .int 60 ∧ S.2.2 (a + 4) = aSh .int 60 ∧ S.2.2 (a + 5) = aSh .int 60 ∧ S.2.2 (a + 6) = mSh 4 (a + 6) ∧ S.2.2 (a + 7) = aSh .int 60 ∧ S.2.2 (a + 8) = aSh .int 60 ∧ S.2.2 (a + 9) = aSh .int 60 ∧ S.2.2 (a + 10) = aSh .int 60 ∧ S.2.2 (a + 11) = mSh 4 (a + 11) ∧ S.2.2 (a + 12) = aSh .int 60 ∧ S.2.2 (a + 13) = aSh .int 60 ∧ S.2.2 (a + 14) = aSh .int 60 ∧ S.2.2 (a + 15) = aSh .int 60 ∧ S.2.2 (a + 16) = aSh .int 4
theorem Wlk0_k {a : Nat} (h : WlkS S a) : kO (hp S m q) a 8 = some () := kO_hp (h.1)
theorem Wlk0_r0 {a : Nat} (h : WlkS S a) : rA (hp S m q) a 8 0 = some (a + 1) := rA_hp (h.1) rfl
theorem Wlk0_r1 {a : Nat} (h : WlkS S a) : rA (hp S m q) a 8 1 = some (a + 6) := rA_hp (h.1) rfl
theorem Wlk0_r2 {a : Nat} (h : WlkS S a) : rA (hp S m q) a 8 2 = some (a + 11) := rA_hp (h.1) rfl
theorem Wlk0_r3 {a : Nat} (h : WlkS S a) : rA (hp S m q) a 8 3 = some (a + 16) := rA_hp (h.1) rfl
theorem Wlk1_m {a : Nat} (h : WlkS S a) (h0 : 0 ≤ i) (h1 : i < 4) : aA (hp S m q) (a + 1) (J i) = some ((a + 1) + 1 + i.toNat) := aA_hp (h.2.1) (by decide) h0 h1
theorem Wlk1_l {a : Nat} (h : WlkS S a) : aL (hp S m q) (a + 1) = some (J 4) := aLM_hp (h.2.1)
theorem Wlk1_m0 {a : Nat} (h : WlkS S a) : aA (hp S m q) (a + 1) (J 0) = some (a + 2) := aA_hp (i := 0) (h.2.1) (by decide) (by decide) (by decide)
theorem Wlk1_m1 {a : Nat} (h : WlkS S a) : aA (hp S m q) (a + 1) (J 1) = some (a + 3) := aA_hp (i := 1) (h.2.1) (by decide) (by decide) (by decide)
theorem Wlk1_m2 {a : Nat} (h : WlkS S a) : aA (hp S m q) (a + 1) (J 2) = some (a + 4) := aA_hp (i := 2) (h.2.1) (by decide) (by decide) (by decide)
theorem Wlk1_m3 {a : Nat} (h : WlkS S a) : aA (hp S m q) (a + 1) (J 3) = some (a + 5) := aA_hp (i := 3) (h.2.1) (by decide) (by decide) (by decide)
theorem Wlk2_g {a : Nat} (h : WlkS S a) (h0 : 0 ≤ i) (h1 : i < 60) : aI (hp S m q) (a + 2) (J i) = some (J (m (a + 2) i)) := aI_hp (h.2.2.1) (by decide) h0 h1
theorem Wlk2_s {a : Nat} (h : WlkS S a) (h0 : 0 ≤ i) (h1 : i < 60) : sI (hp S m q) (a + 2) (J i) (J x) = some (hp S (up m (a + 2) i x) q) := sI_hp (h.2.2.1) (by decide) h0 h1
theorem Wlk2_l {a : Nat} (h : WlkS S a) : aL (hp S m q) (a + 2) = some (J 60) := aL_hp (h.2.2.1)
theorem Wlk3_g {a : Nat} (h : WlkS S a) (h0 : 0 ≤ i) (h1 : i < 60) : aI (hp S m q) (a + 3) (J i) = some (J (m (a + 3) i)) := aI_hp (h.2.2.2.1) (by decide) h0 h1
theorem Wlk3_s {a : Nat} (h : WlkS S a) (h0 : 0 ≤ i) (h1 : i < 60) : sI (hp S m q) (a + 3) (J i) (J x) = some (hp S (up m (a + 3) i x) q) := sI_hp (h.2.2.2.1) (by decide) h0 h1
theorem Wlk3_l {a : Nat} (h : WlkS S a) : aL (hp S m q) (a + 3) = some (J 60) := aL_hp (h.2.2.2.1)
theorem Wlk4_g {a : Nat} (h : WlkS S a) (h0 : 0 ≤ i) (h1 : i < 60) : aI (hp S m q) (a + 4) (J i) = some (J (m (a + 4) i)) := aI_hp (h.2.2.2.2.1) (by decide) h0 h1
theorem Wlk4_s {a : Nat} (h : WlkS S a) (h0 : 0 ≤ i) (h1 : i < 60) : sI (hp S m q) (a + 4) (J i) (J x) = some (hp S (up m (a + 4) i x) q) := sI_hp (h.2.2.2.2.1) (by decide) h0 h1
theorem Wlk4_l {a : Nat} (h : WlkS S a) : aL (hp S m q) (a + 4) = some (J 60) := aL_hp (h.2.2.2.2.1)
theorem Wlk5_g {a : Nat} (h : WlkS S a) (h0 : 0 ≤ i) (h1 : i < 60) : aI (hp S m q) (a + 5) (J i) = some (J (m (a + 5) i)) := aI_hp (h.2.2.2.2.2.1) (by decide) h0 h1
theorem Wlk5_s {a : Nat} (h : WlkS S a) (h0 : 0 ≤ i) (h1 : i < 60) : sI (hp S m q) (a + 5) (J i) (J x) = some (hp S (up m (a + 5) i x) q) := sI_hp (h.2.2.2.2.2.1) (by decide) h0 h1
theorem Wlk5_l {a : Nat} (h : WlkS S a) : aL (hp S m q) (a + 5) = some (J 60) := aL_hp (h.2.2.2.2.2.1)
theorem Wlk6_m {a : Nat} (h : WlkS S a) (h0 : 0 ≤ i) (h1 : i < 4) : aA (hp S m q) (a + 6) (J i) = some ((a + 6) + 1 + i.toNat) := aA_hp (h.2.2.2.2.2.2.1) (by decide) h0 h1
theorem Wlk6_l {a : Nat} (h : WlkS S a) : aL (hp S m q) (a + 6) = some (J 4) := aLM_hp (h.2.2.2.2.2.2.1)
theorem Wlk6_m0 {a : Nat} (h : WlkS S a) : aA (hp S m q) (a + 6) (J 0) = some (a + 7) := aA_hp (i := 0) (h.2.2.2.2.2.2.1) (by decide) (by decide) (by decide)
theorem Wlk6_m1 {a : Nat} (h : WlkS S a) : aA (hp S m q) (a + 6) (J 1) = some (a + 8) := aA_hp (i := 1) (h.2.2.2.2.2.2.1) (by decide) (by decide) (by decide)
theorem Wlk6_m2 {a : Nat} (h : WlkS S a) : aA (hp S m q) (a + 6) (J 2) = some (a + 9) := aA_hp (i := 2) (h.2.2.2.2.2.2.1) (by decide) (by decide) (by decide)
theorem Wlk6_m3 {a : Nat} (h : WlkS S a) : aA (hp S m q) (a + 6) (J 3) = some (a + 10) := aA_hp (i := 3) (h.2.2.2.2.2.2.1) (by decide) (by decide) (by decide)
theorem Wlk7_g {a : Nat} (h : WlkS S a) (h0 : 0 ≤ i) (h1 : i < 60) : aI (hp S m q) (a + 7) (J i) = some (J (m (a + 7) i)) := aI_hp (h.2.2.2.2.2.2.2.1) (by decide) h0 h1
theorem Wlk7_s {a : Nat} (h : WlkS S a) (h0 : 0 ≤ i) (h1 : i < 60) : sI (hp S m q) (a + 7) (J i) (J x) = some (hp S (up m (a + 7) i x) q) := sI_hp (h.2.2.2.2.2.2.2.1) (by decide) h0 h1
theorem Wlk7_l {a : Nat} (h : WlkS S a) : aL (hp S m q) (a + 7) = some (J 60) := aL_hp (h.2.2.2.2.2.2.2.1)
theorem Wlk8_g {a : Nat} (h : WlkS S a) (h0 : 0 ≤ i) (h1 : i < 60) : aI (hp S m q) (a + 8) (J i) = some (J (m (a + 8) i)) := aI_hp (h.2.2.2.2.2.2.2.2.1) (by decide) h0 h1
theorem Wlk8_s {a : Nat} (h : WlkS S a) (h0 : 0 ≤ i) (h1 : i < 60) : sI (hp S m q) (a + 8) (J i) (J x) = some (hp S (up m (a + 8) i x) q) := sI_hp (h.2.2.2.2.2.2.2.2.1) (by decide) h0 h1
theorem Wlk8_l {a : Nat} (h : WlkS S a) : aL (hp S m q) (a + 8) = some (J 60) := aL_hp (h.2.2.2.2.2.2.2.2.1)
theorem Wlk9_g {a : Nat} (h : WlkS S a) (h0 : 0 ≤ i) (h1 : i < 60) : aI (hp S m q) (a + 9) (J i) = some (J (m (a + 9) i)) := aI_hp (h.2.2.2.2.2.2.2.2.2.1) (by decide) h0 h1
theorem Wlk9_s {a : Nat} (h : WlkS S a) (h0 : 0 ≤ i) (h1 : i < 60) : sI (hp S m q) (a + 9) (J i) (J x) = some (hp S (up m (a + 9) i x) q) := sI_hp (h.2.2.2.2.2.2.2.2.2.1) (by decide) h0 h1
theorem Wlk9_l {a : Nat} (h : WlkS S a) : aL (hp S m q) (a + 9) = some (J 60) := aL_hp (h.2.2.2.2.2.2.2.2.2.1)
theorem Wlk10_g {a : Nat} (h : WlkS S a) (h0 : 0 ≤ i) (h1 : i < 60) : aI (hp S m q) (a + 10) (J i) = some (J (m (a + 10) i)) := aI_hp (h.2.2.2.2.2.2.2.2.2.2.1) (by decide) h0 h1
theorem Wlk10_s {a : Nat} (h : WlkS S a) (h0 : 0 ≤ i) (h1 : i < 60) : sI (hp S m q) (a + 10) (J i) (J x) = some (hp S (up m (a + 10) i x) q) := sI_hp (h.2.2.2.2.2.2.2.2.2.2.1) (by decide) h0 h1
theorem Wlk10_l {a : Nat} (h : WlkS S a) : aL (hp S m q) (a + 10) = some (J 60) := aL_hp (h.2.2.2.2.2.2.2.2.2.2.1)
theorem Wlk11_m {a : Nat} (h : WlkS S a) (h0 : 0 ≤ i) (h1 : i < 4) : aA (hp S m q) (a + 11) (J i) = some ((a + 11) + 1 + i.toNat) := aA_hp (h.2.2.2.2.2.2.2.2.2.2.2.1) (by decide) h0 h1
theorem Wlk11_l {a : Nat} (h : WlkS S a) : aL (hp S m q) (a + 11) = some (J 4) := aLM_hp (h.2.2.2.2.2.2.2.2.2.2.2.1)
theorem Wlk11_m0 {a : Nat} (h : WlkS S a) : aA (hp S m q) (a + 11) (J 0) = some (a + 12) := aA_hp (i := 0) (h.2.2.2.2.2.2.2.2.2.2.2.1) (by decide) (by decide) (by decide)
theorem Wlk11_m1 {a : Nat} (h : WlkS S a) : aA (hp S m q) (a + 11) (J 1) = some (a + 13) := aA_hp (i := 1) (h.2.2.2.2.2.2.2.2.2.2.2.1) (by decide) (by decide) (by decide)
theorem Wlk11_m2 {a : Nat} (h : WlkS S a) : aA (hp S m q) (a + 11) (J 2) = some (a + 14) := aA_hp (i := 2) (h.2.2.2.2.2.2.2.2.2.2.2.1) (by decide) (by decide) (by decide)
theorem Wlk11_m3 {a : Nat} (h : WlkS S a) : aA (hp S m q) (a + 11) (J 3) = some (a + 15) := aA_hp (i := 3) (h.2.2.2.2.2.2.2.2.2.2.2.1) (by decide) (by decide) (by decide)
theorem Wlk12_g {a : Nat} (h : WlkS S a) (h0 : 0 ≤ i) (h1 : i < 60) : aI (hp S m q) (a + 12) (J i) = some (J (m (a + 12) i)) := aI_hp (h.2.2.2.2.2.2.2.2.2.2.2.2.1) (by decide) h0 h1
theorem Wlk12_s {a : Nat} (h : WlkS S a) (h0 : 0 ≤ i) (h1 : i < 60) : sI (hp S m q) (a + 12) (J i) (J x) = some (hp S (up m (a + 12) i x) q) := sI_hp (h.2.2.2.2.2.2.2.2.2.2.2.2.1) (by decide) h0 h1
theorem Wlk12_l {a : Nat} (h : WlkS S a) : aL (hp S m q) (a + 12) = some (J 60) := aL_hp (h.2.2.2.2.2.2.2.2.2.2.2.2.1)
theorem Wlk13_g {a : Nat} (h : WlkS S a) (h0 : 0 ≤ i) (h1 : i < 60) : aI (hp S m q) (a + 13) (J i) = some (J (m (a + 13) i)) := aI_hp (h.2.2.2.2.2.2.2.2.2.2.2.2.2.1) (by decide) h0 h1
theorem Wlk13_s {a : Nat} (h : WlkS S a) (h0 : 0 ≤ i) (h1 : i < 60) : sI (hp S m q) (a + 13) (J i) (J x) = some (hp S (up m (a + 13) i x) q) := sI_hp (h.2.2.2.2.2.2.2.2.2.2.2.2.2.1) (by decide) h0 h1
theorem Wlk13_l {a : Nat} (h : WlkS S a) : aL (hp S m q) (a + 13) = some (J 60) := aL_hp (h.2.2.2.2.2.2.2.2.2.2.2.2.2.1)
theorem Wlk14_g {a : Nat} (h : WlkS S a) (h0 : 0 ≤ i) (h1 : i < 60) : aI (hp S m q) (a + 14) (J i) = some (J (m (a + 14) i)) := aI_hp (h.2.2.2.2.2.2.2.2.2.2.2.2.2.2.1) (by decide) h0 h1
theorem Wlk14_s {a : Nat} (h : WlkS S a) (h0 : 0 ≤ i) (h1 : i < 60) : sI (hp S m q) (a + 14) (J i) (J x) = some (hp S (up m (a + 14) i x) q) := sI_hp (h.2.2.2.2.2.2.2.2.2.2.2.2.2.2.1) (by decide) h0 h1
theorem Wlk14_l {a : Nat} (h : WlkS S a) : aL (hp S m q) (a + 14) = some (J 60) := aL_hp (h.2.2.2.2.2.2.2.2.2.2.2.2.2.2.1)
theorem Wlk15_g {a : Nat} (h : WlkS S a) (h0 : 0 ≤ i) (h1 : i < 60) : aI (hp S m q) (a + 15) (J i) = some (J (m (a + 15) i)) := aI_hp (h.2.2.2.2.2.2.2.2.2.2.2.2.2.2.2.1) (by decide) h0 h1
theorem Wlk15_s {a : Nat} (h : WlkS S a) (h0 : 0 ≤ i) (h1 : i < 60) : sI (hp S m q) (a + 15) (J i) (J x) = some (hp S (up m (a + 15) i x) q) := sI_hp (h.2.2.2.2.2.2.2.2.2.2.2.2.2.2.2.1) (by decide) h0 h1
theorem Wlk15_l {a : Nat} (h : WlkS S a) : aL (hp S m q) (a + 15) = some (J 60) := aL_hp (h.2.2.2.2.2.2.2.2.2.2.2.2.2.2.2.1)
theorem Wlk16_g {a : Nat} (h : WlkS S a) (h0 : 0 ≤ i) (h1 : i < 4) : aI (hp S m q) (a + 16) (J i) = some (J (m (a + 16) i)) := aI_hp (h.2.2.2.2.2.2.2.2.2.2.2.2.2.2.2.2) (by decide) h0 h1
theorem Wlk16_s {a : Nat} (h : WlkS S a) (h0 : 0 ≤ i) (h1 : i < 4) : sI (hp S m q) (a + 16) (J i) (J x) = some (hp S (up m (a + 16) i x) q) := sI_hp (h.2.2.2.2.2.2.2.2.2.2.2.2.2.2.2.2) (by decide) h0 h1
theorem Wlk16_l {a : Nat} (h : WlkS S a) : aL (hp S m q) (a + 16) = some (J 4) := aL_hp (h.2.2.2.2.2.2.2.2.2.2.2.2.2.2.2.2)
theorem Sk.Wlk (h : Sk S) : WlkS S 29 := ⟨h.at 29, h.at 30, h.at 31, h.at 32, h.at 33, h.at 34, h.at 35, h.at 36, h.at 37, h.at 38, h.at 39, h.at 40, h.at 41, h.at 42, h.at 43, h.at 44, h.at 45⟩
def NetS (S : xH) (a : Nat) (w r : Nat) : Prop := S.2.2 a = .inr (1, [.ref w, .ref r, .int 0, .int 0, .int 0, .ref (a + 1), .ref (a + 10), .ref (a + 15), .ref (a + 16), .ref (a + 17), .ref (a + 18), .ref (a + 19), .ref (a + 20), .ref (a + 21), .int 0, .int 0, .int 0]) ∧ S.2.2 (a + 1) = mSh 8 (a + 1) ∧ S.2.2 (a + 2) = aSh .int 10 ∧ S.2.2 (a + 3) = aSh .int 10 ∧ S.2.2 (a + 4) = aSh .int 10 ∧ S.2.2 (a + 5) = aSh .int 10 ∧ S.2.2 (a + 6) = aSh .int 10 ∧ S.2.2 (a + 7) = aSh .int 10 ∧ S.2.2 (a + 8) = aSh .int 10 ∧ S.2.2 (a + 9) = aSh .int 10 ∧ S.2.2 (a + 10) = mSh 4 (a + 10) ∧ S.2.2 (a + 11) = aSh .int 300 ∧ S.2.2 (a + 12) = aSh .int 300 ∧ S.2.2 (a + 13) = aSh .int 300 ∧ S.2.2 (a + 14) = aSh .int 300 ∧ S.2.2 (a + 15) = jSh 300 ∧ S.2.2 (a + 16) = aSh .int 10 ∧ S.2.2 (a + 17) = aSh .int 30 ∧ S.2.2 (a + 18) = aSh .int 30 ∧ S.2.2 (a + 19) = aSh .int 30 ∧ S.2.2 (a + 20) = jSh 30 ∧ S.2.2 (a + 21) = aSh .int 10
theorem Net0_k {a w r : Nat} (h : NetS S a w r) : kO (hp S m q) a 1 = some () := kO_hp (h.1)
theorem Net0_r0 {a w r : Nat} (h : NetS S a w r) : rA (hp S m q) a 1 0 = some w := rA_hp (h.1) rfl
theorem Net0_r1 {a w r : Nat} (h : NetS S a w r) : rA (hp S m q) a 1 1 = some r := rA_hp (h.1) rfl
theorem Net0_i2 {a w r : Nat} (h : NetS S a w r) : rI (hp S m q) a 1 2 = some (J (m a 2)) := rI_hp (h.1) rfl
theorem Net0_w2 {a w r : Nat} (h : NetS S a w r) : wV (hp S m q) a 1 2 (.int (J x)) = some (hp S (up m a 2 x) q) := wV_hp (h.1) rfl
theorem Net0_i3 {a w r : Nat} (h : NetS S a w r) : rI (hp S m q) a 1 3 = some (J (m a 3)) := rI_hp (h.1) rfl
theorem Net0_w3 {a w r : Nat} (h : NetS S a w r) : wV (hp S m q) a 1 3 (.int (J x)) = some (hp S (up m a 3 x) q) := wV_hp (h.1) rfl
theorem Net0_i4 {a w r : Nat} (h : NetS S a w r) : rI (hp S m q) a 1 4 = some (J (m a 4)) := rI_hp (h.1) rfl
theorem Net0_w4 {a w r : Nat} (h : NetS S a w r) : wV (hp S m q) a 1 4 (.int (J x)) = some (hp S (up m a 4 x) q) := wV_hp (h.1) rfl
theorem Net0_r5 {a w r : Nat} (h : NetS S a w r) : rA (hp S m q) a 1 5 = some (a + 1) := rA_hp (h.1) rfl
theorem Net0_r6 {a w r : Nat} (h : NetS S a w r) : rA (hp S m q) a 1 6 = some (a + 10) := rA_hp (h.1) rfl
theorem Net0_r7 {a w r : Nat} (h : NetS S a w r) : rA (hp S m q) a 1 7 = some (a + 15) := rA_hp (h.1) rfl
theorem Net0_r8 {a w r : Nat} (h : NetS S a w r) : rA (hp S m q) a 1 8 = some (a + 16) := rA_hp (h.1) rfl
theorem Net0_r9 {a w r : Nat} (h : NetS S a w r) : rA (hp S m q) a 1 9 = some (a + 17) := rA_hp (h.1) rfl
theorem Net0_r10 {a w r : Nat} (h : NetS S a w r) : rA (hp S m q) a 1 10 = some (a + 18) := rA_hp (h.1) rfl
theorem Net0_r11 {a w r : Nat} (h : NetS S a w r) : rA (hp S m q) a 1 11 = some (a + 19) := rA_hp (h.1) rfl
theorem Net0_r12 {a w r : Nat} (h : NetS S a w r) : rA (hp S m q) a 1 12 = some (a + 20) := rA_hp (h.1) rfl
theorem Net0_r13 {a w r : Nat} (h : NetS S a w r) : rA (hp S m q) a 1 13 = some (a + 21) := rA_hp (h.1) rfl
theorem Net0_i14 {a w r : Nat} (h : NetS S a w r) : rI (hp S m q) a 1 14 = some (J (m a 14)) := rI_hp (h.1) rfl
theorem Net0_w14 {a w r : Nat} (h : NetS S a w r) : wV (hp S m q) a 1 14 (.int (J x)) = some (hp S (up m a 14 x) q) := wV_hp (h.1) rfl
theorem Net0_i15 {a w r : Nat} (h : NetS S a w r) : rI (hp S m q) a 1 15 = some (J (m a 15)) := rI_hp (h.1) rfl
theorem Net0_w15 {a w r : Nat} (h : NetS S a w r) : wV (hp S m q) a 1 15 (.int (J x)) = some (hp S (up m a 15 x) q) := wV_hp (h.1) rfl
theorem Net0_i16 {a w r : Nat} (h : NetS S a w r) : rI (hp S m q) a 1 16 = some (J (m a 16)) := rI_hp (h.1) rfl
theorem Net0_w16 {a w r : Nat} (h : NetS S a w r) : wV (hp S m q) a 1 16 (.int (J x)) = some (hp S (up m a 16 x) q) := wV_hp (h.1) rfl
theorem Net1_m {a w r : Nat} (h : NetS S a w r) (h0 : 0 ≤ i) (h1 : i < 8) : aA (hp S m q) (a + 1) (J i) = some ((a + 1) + 1 + i.toNat) := aA_hp (h.2.1) (by decide) h0 h1
theorem Net1_l {a w r : Nat} (h : NetS S a w r) : aL (hp S m q) (a + 1) = some (J 8) := aLM_hp (h.2.1)
theorem Net1_m0 {a w r : Nat} (h : NetS S a w r) : aA (hp S m q) (a + 1) (J 0) = some (a + 2) := aA_hp (i := 0) (h.2.1) (by decide) (by decide) (by decide)
theorem Net1_m1 {a w r : Nat} (h : NetS S a w r) : aA (hp S m q) (a + 1) (J 1) = some (a + 3) := aA_hp (i := 1) (h.2.1) (by decide) (by decide) (by decide)
theorem Net1_m2 {a w r : Nat} (h : NetS S a w r) : aA (hp S m q) (a + 1) (J 2) = some (a + 4) := aA_hp (i := 2) (h.2.1) (by decide) (by decide) (by decide)
theorem Net1_m3 {a w r : Nat} (h : NetS S a w r) : aA (hp S m q) (a + 1) (J 3) = some (a + 5) := aA_hp (i := 3) (h.2.1) (by decide) (by decide) (by decide)
theorem Net1_m4 {a w r : Nat} (h : NetS S a w r) : aA (hp S m q) (a + 1) (J 4) = some (a + 6) := aA_hp (i := 4) (h.2.1) (by decide) (by decide) (by decide)
theorem Net1_m5 {a w r : Nat} (h : NetS S a w r) : aA (hp S m q) (a + 1) (J 5) = some (a + 7) := aA_hp (i := 5) (h.2.1) (by decide) (by decide) (by decide)
theorem Net1_m6 {a w r : Nat} (h : NetS S a w r) : aA (hp S m q) (a + 1) (J 6) = some (a + 8) := aA_hp (i := 6) (h.2.1) (by decide) (by decide) (by decide)
theorem Net1_m7 {a w r : Nat} (h : NetS S a w r) : aA (hp S m q) (a + 1) (J 7) = some (a + 9) := aA_hp (i := 7) (h.2.1) (by decide) (by decide) (by decide)
theorem Net2_g {a w r : Nat} (h : NetS S a w r) (h0 : 0 ≤ i) (h1 : i < 10) : aI (hp S m q) (a + 2) (J i) = some (J (m (a + 2) i)) := aI_hp (h.2.2.1) (by decide) h0 h1
theorem Net2_s {a w r : Nat} (h : NetS S a w r) (h0 : 0 ≤ i) (h1 : i < 10) : sI (hp S m q) (a + 2) (J i) (J x) = some (hp S (up m (a + 2) i x) q) := sI_hp (h.2.2.1) (by decide) h0 h1
theorem Net2_l {a w r : Nat} (h : NetS S a w r) : aL (hp S m q) (a + 2) = some (J 10) := aL_hp (h.2.2.1)
theorem Net3_g {a w r : Nat} (h : NetS S a w r) (h0 : 0 ≤ i) (h1 : i < 10) : aI (hp S m q) (a + 3) (J i) = some (J (m (a + 3) i)) := aI_hp (h.2.2.2.1) (by decide) h0 h1
theorem Net3_s {a w r : Nat} (h : NetS S a w r) (h0 : 0 ≤ i) (h1 : i < 10) : sI (hp S m q) (a + 3) (J i) (J x) = some (hp S (up m (a + 3) i x) q) := sI_hp (h.2.2.2.1) (by decide) h0 h1
theorem Net3_l {a w r : Nat} (h : NetS S a w r) : aL (hp S m q) (a + 3) = some (J 10) := aL_hp (h.2.2.2.1)
theorem Net4_g {a w r : Nat} (h : NetS S a w r) (h0 : 0 ≤ i) (h1 : i < 10) : aI (hp S m q) (a + 4) (J i) = some (J (m (a + 4) i)) := aI_hp (h.2.2.2.2.1) (by decide) h0 h1
theorem Net4_s {a w r : Nat} (h : NetS S a w r) (h0 : 0 ≤ i) (h1 : i < 10) : sI (hp S m q) (a + 4) (J i) (J x) = some (hp S (up m (a + 4) i x) q) := sI_hp (h.2.2.2.2.1) (by decide) h0 h1
theorem Net4_l {a w r : Nat} (h : NetS S a w r) : aL (hp S m q) (a + 4) = some (J 10) := aL_hp (h.2.2.2.2.1)
theorem Net5_g {a w r : Nat} (h : NetS S a w r) (h0 : 0 ≤ i) (h1 : i < 10) : aI (hp S m q) (a + 5) (J i) = some (J (m (a + 5) i)) := aI_hp (h.2.2.2.2.2.1) (by decide) h0 h1
theorem Net5_s {a w r : Nat} (h : NetS S a w r) (h0 : 0 ≤ i) (h1 : i < 10) : sI (hp S m q) (a + 5) (J i) (J x) = some (hp S (up m (a + 5) i x) q) := sI_hp (h.2.2.2.2.2.1) (by decide) h0 h1
theorem Net5_l {a w r : Nat} (h : NetS S a w r) : aL (hp S m q) (a + 5) = some (J 10) := aL_hp (h.2.2.2.2.2.1)
theorem Net6_g {a w r : Nat} (h : NetS S a w r) (h0 : 0 ≤ i) (h1 : i < 10) : aI (hp S m q) (a + 6) (J i) = some (J (m (a + 6) i)) := aI_hp (h.2.2.2.2.2.2.1) (by decide) h0 h1
theorem Net6_s {a w r : Nat} (h : NetS S a w r) (h0 : 0 ≤ i) (h1 : i < 10) : sI (hp S m q) (a + 6) (J i) (J x) = some (hp S (up m (a + 6) i x) q) := sI_hp (h.2.2.2.2.2.2.1) (by decide) h0 h1
theorem Net6_l {a w r : Nat} (h : NetS S a w r) : aL (hp S m q) (a + 6) = some (J 10) := aL_hp (h.2.2.2.2.2.2.1)
theorem Net7_g {a w r : Nat} (h : NetS S a w r) (h0 : 0 ≤ i) (h1 : i < 10) : aI (hp S m q) (a + 7) (J i) = some (J (m (a + 7) i)) := aI_hp (h.2.2.2.2.2.2.2.1) (by decide) h0 h1
theorem Net7_s {a w r : Nat} (h : NetS S a w r) (h0 : 0 ≤ i) (h1 : i < 10) : sI (hp S m q) (a + 7) (J i) (J x) = some (hp S (up m (a + 7) i x) q) := sI_hp (h.2.2.2.2.2.2.2.1) (by decide) h0 h1
theorem Net7_l {a w r : Nat} (h : NetS S a w r) : aL (hp S m q) (a + 7) = some (J 10) := aL_hp (h.2.2.2.2.2.2.2.1)
theorem Net8_g {a w r : Nat} (h : NetS S a w r) (h0 : 0 ≤ i) (h1 : i < 10) : aI (hp S m q) (a + 8) (J i) = some (J (m (a + 8) i)) := aI_hp (h.2.2.2.2.2.2.2.2.1) (by decide) h0 h1
theorem Net8_s {a w r : Nat} (h : NetS S a w r) (h0 : 0 ≤ i) (h1 : i < 10) : sI (hp S m q) (a + 8) (J i) (J x) = some (hp S (up m (a + 8) i x) q) := sI_hp (h.2.2.2.2.2.2.2.2.1) (by decide) h0 h1
theorem Net8_l {a w r : Nat} (h : NetS S a w r) : aL (hp S m q) (a + 8) = some (J 10) := aL_hp (h.2.2.2.2.2.2.2.2.1)
theorem Net9_g {a w r : Nat} (h : NetS S a w r) (h0 : 0 ≤ i) (h1 : i < 10) : aI (hp S m q) (a + 9) (J i) = some (J (m (a + 9) i)) := aI_hp (h.2.2.2.2.2.2.2.2.2.1) (by decide) h0 h1
theorem Net9_s {a w r : Nat} (h : NetS S a w r) (h0 : 0 ≤ i) (h1 : i < 10) : sI (hp S m q) (a + 9) (J i) (J x) = some (hp S (up m (a + 9) i x) q) := sI_hp (h.2.2.2.2.2.2.2.2.2.1) (by decide) h0 h1
theorem Net9_l {a w r : Nat} (h : NetS S a w r) : aL (hp S m q) (a + 9) = some (J 10) := aL_hp (h.2.2.2.2.2.2.2.2.2.1)
theorem Net10_m {a w r : Nat} (h : NetS S a w r) (h0 : 0 ≤ i) (h1 : i < 4) : aA (hp S m q) (a + 10) (J i) = some ((a + 10) + 1 + i.toNat) := aA_hp (h.2.2.2.2.2.2.2.2.2.2.1) (by decide) h0 h1
theorem Net10_l {a w r : Nat} (h : NetS S a w r) : aL (hp S m q) (a + 10) = some (J 4) := aLM_hp (h.2.2.2.2.2.2.2.2.2.2.1)
theorem Net10_m0 {a w r : Nat} (h : NetS S a w r) : aA (hp S m q) (a + 10) (J 0) = some (a + 11) := aA_hp (i := 0) (h.2.2.2.2.2.2.2.2.2.2.1) (by decide) (by decide) (by decide)
theorem Net10_m1 {a w r : Nat} (h : NetS S a w r) : aA (hp S m q) (a + 10) (J 1) = some (a + 12) := aA_hp (i := 1) (h.2.2.2.2.2.2.2.2.2.2.1) (by decide) (by decide) (by decide)
theorem Net10_m2 {a w r : Nat} (h : NetS S a w r) : aA (hp S m q) (a + 10) (J 2) = some (a + 13) := aA_hp (i := 2) (h.2.2.2.2.2.2.2.2.2.2.1) (by decide) (by decide) (by decide)
theorem Net10_m3 {a w r : Nat} (h : NetS S a w r) : aA (hp S m q) (a + 10) (J 3) = some (a + 14) := aA_hp (i := 3) (h.2.2.2.2.2.2.2.2.2.2.1) (by decide) (by decide) (by decide)
theorem Net11_g {a w r : Nat} (h : NetS S a w r) (h0 : 0 ≤ i) (h1 : i < 300) : aI (hp S m q) (a + 11) (J i) = some (J (m (a + 11) i)) := aI_hp (h.2.2.2.2.2.2.2.2.2.2.2.1) (by decide) h0 h1
theorem Net11_s {a w r : Nat} (h : NetS S a w r) (h0 : 0 ≤ i) (h1 : i < 300) : sI (hp S m q) (a + 11) (J i) (J x) = some (hp S (up m (a + 11) i x) q) := sI_hp (h.2.2.2.2.2.2.2.2.2.2.2.1) (by decide) h0 h1
theorem Net11_l {a w r : Nat} (h : NetS S a w r) : aL (hp S m q) (a + 11) = some (J 300) := aL_hp (h.2.2.2.2.2.2.2.2.2.2.2.1)
theorem Net12_g {a w r : Nat} (h : NetS S a w r) (h0 : 0 ≤ i) (h1 : i < 300) : aI (hp S m q) (a + 12) (J i) = some (J (m (a + 12) i)) := aI_hp (h.2.2.2.2.2.2.2.2.2.2.2.2.1) (by decide) h0 h1
theorem Net12_s {a w r : Nat} (h : NetS S a w r) (h0 : 0 ≤ i) (h1 : i < 300) : sI (hp S m q) (a + 12) (J i) (J x) = some (hp S (up m (a + 12) i x) q) := sI_hp (h.2.2.2.2.2.2.2.2.2.2.2.2.1) (by decide) h0 h1
theorem Net12_l {a w r : Nat} (h : NetS S a w r) : aL (hp S m q) (a + 12) = some (J 300) := aL_hp (h.2.2.2.2.2.2.2.2.2.2.2.2.1)
theorem Net13_g {a w r : Nat} (h : NetS S a w r) (h0 : 0 ≤ i) (h1 : i < 300) : aI (hp S m q) (a + 13) (J i) = some (J (m (a + 13) i)) := aI_hp (h.2.2.2.2.2.2.2.2.2.2.2.2.2.1) (by decide) h0 h1
theorem Net13_s {a w r : Nat} (h : NetS S a w r) (h0 : 0 ≤ i) (h1 : i < 300) : sI (hp S m q) (a + 13) (J i) (J x) = some (hp S (up m (a + 13) i x) q) := sI_hp (h.2.2.2.2.2.2.2.2.2.2.2.2.2.1) (by decide) h0 h1
theorem Net13_l {a w r : Nat} (h : NetS S a w r) : aL (hp S m q) (a + 13) = some (J 300) := aL_hp (h.2.2.2.2.2.2.2.2.2.2.2.2.2.1)
theorem Net14_g {a w r : Nat} (h : NetS S a w r) (h0 : 0 ≤ i) (h1 : i < 300) : aI (hp S m q) (a + 14) (J i) = some (J (m (a + 14) i)) := aI_hp (h.2.2.2.2.2.2.2.2.2.2.2.2.2.2.1) (by decide) h0 h1
theorem Net14_s {a w r : Nat} (h : NetS S a w r) (h0 : 0 ≤ i) (h1 : i < 300) : sI (hp S m q) (a + 14) (J i) (J x) = some (hp S (up m (a + 14) i x) q) := sI_hp (h.2.2.2.2.2.2.2.2.2.2.2.2.2.2.1) (by decide) h0 h1
theorem Net14_l {a w r : Nat} (h : NetS S a w r) : aL (hp S m q) (a + 14) = some (J 300) := aL_hp (h.2.2.2.2.2.2.2.2.2.2.2.2.2.2.1)
theorem Net15_g {a w r : Nat} (h : NetS S a w r) (h0 : 0 ≤ i) (h1 : i < 300) : aJ (hp S m q) (a + 15) (J i) = some (q (a + 15) i) := aJ_hp (h.2.2.2.2.2.2.2.2.2.2.2.2.2.2.2.1) (by decide) h0 h1
theorem Net15_s {a w r : Nat} (h : NetS S a w r) {y : Int64} (h0 : 0 ≤ i) (h1 : i < 300) : sJ (hp S m q) (a + 15) (J i) y = some (hp S m (uq q (a + 15) i y)) := sJ_hp (h.2.2.2.2.2.2.2.2.2.2.2.2.2.2.2.1) (by decide) h0 h1
theorem Net15_l {a w r : Nat} (h : NetS S a w r) : aL (hp S m q) (a + 15) = some (J 300) := aLJ_hp (h.2.2.2.2.2.2.2.2.2.2.2.2.2.2.2.1)
theorem Net16_g {a w r : Nat} (h : NetS S a w r) (h0 : 0 ≤ i) (h1 : i < 10) : aI (hp S m q) (a + 16) (J i) = some (J (m (a + 16) i)) := aI_hp (h.2.2.2.2.2.2.2.2.2.2.2.2.2.2.2.2.1) (by decide) h0 h1
theorem Net16_s {a w r : Nat} (h : NetS S a w r) (h0 : 0 ≤ i) (h1 : i < 10) : sI (hp S m q) (a + 16) (J i) (J x) = some (hp S (up m (a + 16) i x) q) := sI_hp (h.2.2.2.2.2.2.2.2.2.2.2.2.2.2.2.2.1) (by decide) h0 h1
theorem Net16_l {a w r : Nat} (h : NetS S a w r) : aL (hp S m q) (a + 16) = some (J 10) := aL_hp (h.2.2.2.2.2.2.2.2.2.2.2.2.2.2.2.2.1)
theorem Net17_g {a w r : Nat} (h : NetS S a w r) (h0 : 0 ≤ i) (h1 : i < 30) : aI (hp S m q) (a + 17) (J i) = some (J (m (a + 17) i)) := aI_hp (h.2.2.2.2.2.2.2.2.2.2.2.2.2.2.2.2.2.1) (by decide) h0 h1
theorem Net17_s {a w r : Nat} (h : NetS S a w r) (h0 : 0 ≤ i) (h1 : i < 30) : sI (hp S m q) (a + 17) (J i) (J x) = some (hp S (up m (a + 17) i x) q) := sI_hp (h.2.2.2.2.2.2.2.2.2.2.2.2.2.2.2.2.2.1) (by decide) h0 h1
theorem Net17_l {a w r : Nat} (h : NetS S a w r) : aL (hp S m q) (a + 17) = some (J 30) := aL_hp (h.2.2.2.2.2.2.2.2.2.2.2.2.2.2.2.2.2.1)
theorem Net18_g {a w r : Nat} (h : NetS S a w r) (h0 : 0 ≤ i) (h1 : i < 30) : aI (hp S m q) (a + 18) (J i) = some (J (m (a + 18) i)) := aI_hp (h.2.2.2.2.2.2.2.2.2.2.2.2.2.2.2.2.2.2.1) (by decide) h0 h1
theorem Net18_s {a w r : Nat} (h : NetS S a w r) (h0 : 0 ≤ i) (h1 : i < 30) : sI (hp S m q) (a + 18) (J i) (J x) = some (hp S (up m (a + 18) i x) q) := sI_hp (h.2.2.2.2.2.2.2.2.2.2.2.2.2.2.2.2.2.2.1) (by decide) h0 h1
theorem Net18_l {a w r : Nat} (h : NetS S a w r) : aL (hp S m q) (a + 18) = some (J 30) := aL_hp (h.2.2.2.2.2.2.2.2.2.2.2.2.2.2.2.2.2.2.1)
theorem Net19_g {a w r : Nat} (h : NetS S a w r) (h0 : 0 ≤ i) (h1 : i < 30) : aI (hp S m q) (a + 19) (J i) = some (J (m (a + 19) i)) := aI_hp (h.2.2.2.2.2.2.2.2.2.2.2.2.2.2.2.2.2.2.2.1) (by decide) h0 h1
theorem Net19_s {a w r : Nat} (h : NetS S a w r) (h0 : 0 ≤ i) (h1 : i < 30) : sI (hp S m q) (a + 19) (J i) (J x) = some (hp S (up m (a + 19) i x) q) := sI_hp (h.2.2.2.2.2.2.2.2.2.2.2.2.2.2.2.2.2.2.2.1) (by decide) h0 h1
theorem Net19_l {a w r : Nat} (h : NetS S a w r) : aL (hp S m q) (a + 19) = some (J 30) := aL_hp (h.2.2.2.2.2.2.2.2.2.2.2.2.2.2.2.2.2.2.2.1)
theorem Net20_g {a w r : Nat} (h : NetS S a w r) (h0 : 0 ≤ i) (h1 : i < 30) : aJ (hp S m q) (a + 20) (J i) = some (q (a + 20) i) := aJ_hp (h.2.2.2.2.2.2.2.2.2.2.2.2.2.2.2.2.2.2.2.2.1) (by decide) h0 h1
theorem Net20_s {a w r : Nat} (h : NetS S a w r) {y : Int64} (h0 : 0 ≤ i) (h1 : i < 30) : sJ (hp S m q) (a + 20) (J i) y = some (hp S m (uq q (a + 20) i y)) := sJ_hp (h.2.2.2.2.2.2.2.2.2.2.2.2.2.2.2.2.2.2.2.2.1) (by decide) h0 h1
theorem Net20_l {a w r : Nat} (h : NetS S a w r) : aL (hp S m q) (a + 20) = some (J 30) := aLJ_hp (h.2.2.2.2.2.2.2.2.2.2.2.2.2.2.2.2.2.2.2.2.1)
theorem Net21_g {a w r : Nat} (h : NetS S a w r) (h0 : 0 ≤ i) (h1 : i < 10) : aI (hp S m q) (a + 21) (J i) = some (J (m (a + 21) i)) := aI_hp (h.2.2.2.2.2.2.2.2.2.2.2.2.2.2.2.2.2.2.2.2.2) (by decide) h0 h1
theorem Net21_s {a w r : Nat} (h : NetS S a w r) (h0 : 0 ≤ i) (h1 : i < 10) : sI (hp S m q) (a + 21) (J i) (J x) = some (hp S (up m (a + 21) i x) q) := sI_hp (h.2.2.2.2.2.2.2.2.2.2.2.2.2.2.2.2.2.2.2.2.2) (by decide) h0 h1
theorem Net21_l {a w r : Nat} (h : NetS S a w r) : aL (hp S m q) (a + 21) = some (J 10) := aL_hp (h.2.2.2.2.2.2.2.2.2.2.2.2.2.2.2.2.2.2.2.2.2)
def RowS (S : xH) (a : Nat) : Prop := S.2.2 a = .inr (4, [.ref (a + 1), .ref (a + 2), .int 0]) ∧ S.2.2 (a + 1) = aSh .int 8 ∧ S.2.2 (a + 2) = aSh .int 8
theorem Row0_k {a : Nat} (h : RowS S a) : kO (hp S m q) a 4 = some () := kO_hp (h.1)
theorem Row0_r0 {a : Nat} (h : RowS S a) : rA (hp S m q) a 4 0 = some (a + 1) := rA_hp (h.1) rfl
theorem Row0_r1 {a : Nat} (h : RowS S a) : rA (hp S m q) a 4 1 = some (a + 2) := rA_hp (h.1) rfl
theorem Row0_i2 {a : Nat} (h : RowS S a) : rI (hp S m q) a 4 2 = some (J (m a 2)) := rI_hp (h.1) rfl
theorem Row0_w2 {a : Nat} (h : RowS S a) : wV (hp S m q) a 4 2 (.int (J x)) = some (hp S (up m a 2 x) q) := wV_hp (h.1) rfl
theorem Row1_g {a : Nat} (h : RowS S a) (h0 : 0 ≤ i) (h1 : i < 8) : aI (hp S m q) (a + 1) (J i) = some (J (m (a + 1) i)) := aI_hp (h.2.1) (by decide) h0 h1
theorem Row1_s {a : Nat} (h : RowS S a) (h0 : 0 ≤ i) (h1 : i < 8) : sI (hp S m q) (a + 1) (J i) (J x) = some (hp S (up m (a + 1) i x) q) := sI_hp (h.2.1) (by decide) h0 h1
theorem Row1_l {a : Nat} (h : RowS S a) : aL (hp S m q) (a + 1) = some (J 8) := aL_hp (h.2.1)
theorem Row2_g {a : Nat} (h : RowS S a) (h0 : 0 ≤ i) (h1 : i < 8) : aI (hp S m q) (a + 2) (J i) = some (J (m (a + 2) i)) := aI_hp (h.2.2) (by decide) h0 h1
theorem Row2_s {a : Nat} (h : RowS S a) (h0 : 0 ≤ i) (h1 : i < 8) : sI (hp S m q) (a + 2) (J i) (J x) = some (hp S (up m (a + 2) i x) q) := sI_hp (h.2.2) (by decide) h0 h1
theorem Row2_l {a : Nat} (h : RowS S a) : aL (hp S m q) (a + 2) = some (J 8) := aL_hp (h.2.2)
theorem Sk.Row (h : Sk S) : RowS S 90 := ⟨h.at 90, h.at 91, h.at 92⟩
def ParS (S : xH) (a : Nat) : Prop := S.2.2 a = .inr (2, [.ref (a + 1), .ref (a + 2), .ref (a + 3), .ref (a + 4), .ref (a + 5), .int 0, .int 0, .int 0, .int 0]) ∧ S.2.2 (a + 1) = aSh .int 7 ∧ S.2.2 (a + 2) = aSh .int 7 ∧ S.2.2 (a + 3) = aSh .int 7 ∧ S.2.2 (a + 4) = aSh .int 7 ∧ S.2.2 (a + 5) = aSh .int 7
theorem Par0_k {a : Nat} (h : ParS S a) : kO (hp S m q) a 2 = some () := kO_hp (h.1)
theorem Par0_r0 {a : Nat} (h : ParS S a) : rA (hp S m q) a 2 0 = some (a + 1) := rA_hp (h.1) rfl
theorem Par0_r1 {a : Nat} (h : ParS S a) : rA (hp S m q) a 2 1 = some (a + 2) := rA_hp (h.1) rfl
theorem Par0_r2 {a : Nat} (h : ParS S a) : rA (hp S m q) a 2 2 = some (a + 3) := rA_hp (h.1) rfl
theorem Par0_r3 {a : Nat} (h : ParS S a) : rA (hp S m q) a 2 3 = some (a + 4) := rA_hp (h.1) rfl
theorem Par0_r4 {a : Nat} (h : ParS S a) : rA (hp S m q) a 2 4 = some (a + 5) := rA_hp (h.1) rfl
theorem Par0_i5 {a : Nat} (h : ParS S a) : rI (hp S m q) a 2 5 = some (J (m a 5)) := rI_hp (h.1) rfl
theorem Par0_w5 {a : Nat} (h : ParS S a) : wV (hp S m q) a 2 5 (.int (J x)) = some (hp S (up m a 5 x) q) := wV_hp (h.1) rfl
theorem Par0_i6 {a : Nat} (h : ParS S a) : rI (hp S m q) a 2 6 = some (J (m a 6)) := rI_hp (h.1) rfl
theorem Par0_w6 {a : Nat} (h : ParS S a) : wV (hp S m q) a 2 6 (.int (J x)) = some (hp S (up m a 6 x) q) := wV_hp (h.1) rfl
theorem Par0_i7 {a : Nat} (h : ParS S a) : rI (hp S m q) a 2 7 = some (J (m a 7)) := rI_hp (h.1) rfl
theorem Par0_w7 {a : Nat} (h : ParS S a) : wV (hp S m q) a 2 7 (.int (J x)) = some (hp S (up m a 7 x) q) := wV_hp (h.1) rfl
theorem Par0_i8 {a : Nat} (h : ParS S a) : rI (hp S m q) a 2 8 = some (J (m a 8)) := rI_hp (h.1) rfl
theorem Par0_w8 {a : Nat} (h : ParS S a) : wV (hp S m q) a 2 8 (.int (J x)) = some (hp S (up m a 8 x) q) := wV_hp (h.1) rfl
theorem Par1_g {a : Nat} (h : ParS S a) (h0 : 0 ≤ i) (h1 : i < 7) : aI (hp S m q) (a + 1) (J i) = some (J (m (a + 1) i)) := aI_hp (h.2.1) (by decide) h0 h1
theorem Par1_s {a : Nat} (h : ParS S a) (h0 : 0 ≤ i) (h1 : i < 7) : sI (hp S m q) (a + 1) (J i) (J x) = some (hp S (up m (a + 1) i x) q) := sI_hp (h.2.1) (by decide) h0 h1
theorem Par1_l {a : Nat} (h : ParS S a) : aL (hp S m q) (a + 1) = some (J 7) := aL_hp (h.2.1)
theorem Par2_g {a : Nat} (h : ParS S a) (h0 : 0 ≤ i) (h1 : i < 7) : aI (hp S m q) (a + 2) (J i) = some (J (m (a + 2) i)) := aI_hp (h.2.2.1) (by decide) h0 h1
theorem Par2_s {a : Nat} (h : ParS S a) (h0 : 0 ≤ i) (h1 : i < 7) : sI (hp S m q) (a + 2) (J i) (J x) = some (hp S (up m (a + 2) i x) q) := sI_hp (h.2.2.1) (by decide) h0 h1
theorem Par2_l {a : Nat} (h : ParS S a) : aL (hp S m q) (a + 2) = some (J 7) := aL_hp (h.2.2.1)
theorem Par3_g {a : Nat} (h : ParS S a) (h0 : 0 ≤ i) (h1 : i < 7) : aI (hp S m q) (a + 3) (J i) = some (J (m (a + 3) i)) := aI_hp (h.2.2.2.1) (by decide) h0 h1
theorem Par3_s {a : Nat} (h : ParS S a) (h0 : 0 ≤ i) (h1 : i < 7) : sI (hp S m q) (a + 3) (J i) (J x) = some (hp S (up m (a + 3) i x) q) := sI_hp (h.2.2.2.1) (by decide) h0 h1
theorem Par3_l {a : Nat} (h : ParS S a) : aL (hp S m q) (a + 3) = some (J 7) := aL_hp (h.2.2.2.1)
theorem Par4_g {a : Nat} (h : ParS S a) (h0 : 0 ≤ i) (h1 : i < 7) : aI (hp S m q) (a + 4) (J i) = some (J (m (a + 4) i)) := aI_hp (h.2.2.2.2.1) (by decide) h0 h1
theorem Par4_s {a : Nat} (h : ParS S a) (h0 : 0 ≤ i) (h1 : i < 7) : sI (hp S m q) (a + 4) (J i) (J x) = some (hp S (up m (a + 4) i x) q) := sI_hp (h.2.2.2.2.1) (by decide) h0 h1
theorem Par4_l {a : Nat} (h : ParS S a) : aL (hp S m q) (a + 4) = some (J 7) := aL_hp (h.2.2.2.2.1)
theorem Par5_g {a : Nat} (h : ParS S a) (h0 : 0 ≤ i) (h1 : i < 7) : aI (hp S m q) (a + 5) (J i) = some (J (m (a + 5) i)) := aI_hp (h.2.2.2.2.2) (by decide) h0 h1
theorem Par5_s {a : Nat} (h : ParS S a) (h0 : 0 ≤ i) (h1 : i < 7) : sI (hp S m q) (a + 5) (J i) (J x) = some (hp S (up m (a + 5) i x) q) := sI_hp (h.2.2.2.2.2) (by decide) h0 h1
theorem Par5_l {a : Nat} (h : ParS S a) : aL (hp S m q) (a + 5) = some (J 7) := aL_hp (h.2.2.2.2.2)
theorem Sk.Par (h : Sk S) : ParS S 93 := ⟨h.at 93, h.at 94, h.at 95, h.at 96, h.at 97, h.at 98⟩
def HelS (S : xH) (a : Nat) : Prop := S.2.2 a = .inr (0, [.ref (a + 1), .ref (a + 8), .ref (a + 9), .ref (a + 10), .ref (a + 11), .int 0, .int 0, .int 0]) ∧ S.2.2 (a + 1) = mSh 6 (a + 1) ∧ S.2.2 (a + 2) = aSh .int 5 ∧ S.2.2 (a + 3) = aSh .int 5 ∧ S.2.2 (a + 4) = aSh .int 5 ∧ S.2.2 (a + 5) = aSh .int 5 ∧ S.2.2 (a + 6) = aSh .int 5 ∧ S.2.2 (a + 7) = aSh .int 5 ∧ S.2.2 (a + 8) = aSh .int 4 ∧ S.2.2 (a + 9) = aSh .int 4 ∧ S.2.2 (a + 10) = aSh .int 4 ∧ S.2.2 (a + 11) = aSh .int 4
theorem Hel0_k {a : Nat} (h : HelS S a) : kO (hp S m q) a 0 = some () := kO_hp (h.1)
theorem Hel0_r0 {a : Nat} (h : HelS S a) : rA (hp S m q) a 0 0 = some (a + 1) := rA_hp (h.1) rfl
theorem Hel0_r1 {a : Nat} (h : HelS S a) : rA (hp S m q) a 0 1 = some (a + 8) := rA_hp (h.1) rfl
theorem Hel0_r2 {a : Nat} (h : HelS S a) : rA (hp S m q) a 0 2 = some (a + 9) := rA_hp (h.1) rfl
theorem Hel0_r3 {a : Nat} (h : HelS S a) : rA (hp S m q) a 0 3 = some (a + 10) := rA_hp (h.1) rfl
theorem Hel0_r4 {a : Nat} (h : HelS S a) : rA (hp S m q) a 0 4 = some (a + 11) := rA_hp (h.1) rfl
theorem Hel0_i5 {a : Nat} (h : HelS S a) : rI (hp S m q) a 0 5 = some (J (m a 5)) := rI_hp (h.1) rfl
theorem Hel0_w5 {a : Nat} (h : HelS S a) : wV (hp S m q) a 0 5 (.int (J x)) = some (hp S (up m a 5 x) q) := wV_hp (h.1) rfl
theorem Hel0_i6 {a : Nat} (h : HelS S a) : rI (hp S m q) a 0 6 = some (J (m a 6)) := rI_hp (h.1) rfl
theorem Hel0_w6 {a : Nat} (h : HelS S a) : wV (hp S m q) a 0 6 (.int (J x)) = some (hp S (up m a 6 x) q) := wV_hp (h.1) rfl
theorem Hel0_i7 {a : Nat} (h : HelS S a) : rI (hp S m q) a 0 7 = some (J (m a 7)) := rI_hp (h.1) rfl
theorem Hel0_w7 {a : Nat} (h : HelS S a) : wV (hp S m q) a 0 7 (.int (J x)) = some (hp S (up m a 7 x) q) := wV_hp (h.1) rfl
theorem Hel1_m {a : Nat} (h : HelS S a) (h0 : 0 ≤ i) (h1 : i < 6) : aA (hp S m q) (a + 1) (J i) = some ((a + 1) + 1 + i.toNat) := aA_hp (h.2.1) (by decide) h0 h1
theorem Hel1_l {a : Nat} (h : HelS S a) : aL (hp S m q) (a + 1) = some (J 6) := aLM_hp (h.2.1)
theorem Hel1_m0 {a : Nat} (h : HelS S a) : aA (hp S m q) (a + 1) (J 0) = some (a + 2) := aA_hp (i := 0) (h.2.1) (by decide) (by decide) (by decide)
theorem Hel1_m1 {a : Nat} (h : HelS S a) : aA (hp S m q) (a + 1) (J 1) = some (a + 3) := aA_hp (i := 1) (h.2.1) (by decide) (by decide) (by decide)
theorem Hel1_m2 {a : Nat} (h : HelS S a) : aA (hp S m q) (a + 1) (J 2) = some (a + 4) := aA_hp (i := 2) (h.2.1) (by decide) (by decide) (by decide)
theorem Hel1_m3 {a : Nat} (h : HelS S a) : aA (hp S m q) (a + 1) (J 3) = some (a + 5) := aA_hp (i := 3) (h.2.1) (by decide) (by decide) (by decide)
theorem Hel1_m4 {a : Nat} (h : HelS S a) : aA (hp S m q) (a + 1) (J 4) = some (a + 6) := aA_hp (i := 4) (h.2.1) (by decide) (by decide) (by decide)
theorem Hel1_m5 {a : Nat} (h : HelS S a) : aA (hp S m q) (a + 1) (J 5) = some (a + 7) := aA_hp (i := 5) (h.2.1) (by decide) (by decide) (by decide)
theorem Hel2_g {a : Nat} (h : HelS S a) (h0 : 0 ≤ i) (h1 : i < 5) : aI (hp S m q) (a + 2) (J i) = some (J (m (a + 2) i)) := aI_hp (h.2.2.1) (by decide) h0 h1
theorem Hel2_s {a : Nat} (h : HelS S a) (h0 : 0 ≤ i) (h1 : i < 5) : sI (hp S m q) (a + 2) (J i) (J x) = some (hp S (up m (a + 2) i x) q) := sI_hp (h.2.2.1) (by decide) h0 h1
theorem Hel2_l {a : Nat} (h : HelS S a) : aL (hp S m q) (a + 2) = some (J 5) := aL_hp (h.2.2.1)
theorem Hel3_g {a : Nat} (h : HelS S a) (h0 : 0 ≤ i) (h1 : i < 5) : aI (hp S m q) (a + 3) (J i) = some (J (m (a + 3) i)) := aI_hp (h.2.2.2.1) (by decide) h0 h1
theorem Hel3_s {a : Nat} (h : HelS S a) (h0 : 0 ≤ i) (h1 : i < 5) : sI (hp S m q) (a + 3) (J i) (J x) = some (hp S (up m (a + 3) i x) q) := sI_hp (h.2.2.2.1) (by decide) h0 h1
theorem Hel3_l {a : Nat} (h : HelS S a) : aL (hp S m q) (a + 3) = some (J 5) := aL_hp (h.2.2.2.1)
theorem Hel4_g {a : Nat} (h : HelS S a) (h0 : 0 ≤ i) (h1 : i < 5) : aI (hp S m q) (a + 4) (J i) = some (J (m (a + 4) i)) := aI_hp (h.2.2.2.2.1) (by decide) h0 h1
theorem Hel4_s {a : Nat} (h : HelS S a) (h0 : 0 ≤ i) (h1 : i < 5) : sI (hp S m q) (a + 4) (J i) (J x) = some (hp S (up m (a + 4) i x) q) := sI_hp (h.2.2.2.2.1) (by decide) h0 h1
theorem Hel4_l {a : Nat} (h : HelS S a) : aL (hp S m q) (a + 4) = some (J 5) := aL_hp (h.2.2.2.2.1)
theorem Hel5_g {a : Nat} (h : HelS S a) (h0 : 0 ≤ i) (h1 : i < 5) : aI (hp S m q) (a + 5) (J i) = some (J (m (a + 5) i)) := aI_hp (h.2.2.2.2.2.1) (by decide) h0 h1
theorem Hel5_s {a : Nat} (h : HelS S a) (h0 : 0 ≤ i) (h1 : i < 5) : sI (hp S m q) (a + 5) (J i) (J x) = some (hp S (up m (a + 5) i x) q) := sI_hp (h.2.2.2.2.2.1) (by decide) h0 h1
theorem Hel5_l {a : Nat} (h : HelS S a) : aL (hp S m q) (a + 5) = some (J 5) := aL_hp (h.2.2.2.2.2.1)
theorem Hel6_g {a : Nat} (h : HelS S a) (h0 : 0 ≤ i) (h1 : i < 5) : aI (hp S m q) (a + 6) (J i) = some (J (m (a + 6) i)) := aI_hp (h.2.2.2.2.2.2.1) (by decide) h0 h1
theorem Hel6_s {a : Nat} (h : HelS S a) (h0 : 0 ≤ i) (h1 : i < 5) : sI (hp S m q) (a + 6) (J i) (J x) = some (hp S (up m (a + 6) i x) q) := sI_hp (h.2.2.2.2.2.2.1) (by decide) h0 h1
theorem Hel6_l {a : Nat} (h : HelS S a) : aL (hp S m q) (a + 6) = some (J 5) := aL_hp (h.2.2.2.2.2.2.1)
theorem Hel7_g {a : Nat} (h : HelS S a) (h0 : 0 ≤ i) (h1 : i < 5) : aI (hp S m q) (a + 7) (J i) = some (J (m (a + 7) i)) := aI_hp (h.2.2.2.2.2.2.2.1) (by decide) h0 h1
theorem Hel7_s {a : Nat} (h : HelS S a) (h0 : 0 ≤ i) (h1 : i < 5) : sI (hp S m q) (a + 7) (J i) (J x) = some (hp S (up m (a + 7) i x) q) := sI_hp (h.2.2.2.2.2.2.2.1) (by decide) h0 h1
theorem Hel7_l {a : Nat} (h : HelS S a) : aL (hp S m q) (a + 7) = some (J 5) := aL_hp (h.2.2.2.2.2.2.2.1)
theorem Hel8_g {a : Nat} (h : HelS S a) (h0 : 0 ≤ i) (h1 : i < 4) : aI (hp S m q) (a + 8) (J i) = some (J (m (a + 8) i)) := aI_hp (h.2.2.2.2.2.2.2.2.1) (by decide) h0 h1
theorem Hel8_s {a : Nat} (h : HelS S a) (h0 : 0 ≤ i) (h1 : i < 4) : sI (hp S m q) (a + 8) (J i) (J x) = some (hp S (up m (a + 8) i x) q) := sI_hp (h.2.2.2.2.2.2.2.2.1) (by decide) h0 h1
theorem Hel8_l {a : Nat} (h : HelS S a) : aL (hp S m q) (a + 8) = some (J 4) := aL_hp (h.2.2.2.2.2.2.2.2.1)
theorem Hel9_g {a : Nat} (h : HelS S a) (h0 : 0 ≤ i) (h1 : i < 4) : aI (hp S m q) (a + 9) (J i) = some (J (m (a + 9) i)) := aI_hp (h.2.2.2.2.2.2.2.2.2.1) (by decide) h0 h1
theorem Hel9_s {a : Nat} (h : HelS S a) (h0 : 0 ≤ i) (h1 : i < 4) : sI (hp S m q) (a + 9) (J i) (J x) = some (hp S (up m (a + 9) i x) q) := sI_hp (h.2.2.2.2.2.2.2.2.2.1) (by decide) h0 h1
theorem Hel9_l {a : Nat} (h : HelS S a) : aL (hp S m q) (a + 9) = some (J 4) := aL_hp (h.2.2.2.2.2.2.2.2.2.1)
theorem Hel10_g {a : Nat} (h : HelS S a) (h0 : 0 ≤ i) (h1 : i < 4) : aI (hp S m q) (a + 10) (J i) = some (J (m (a + 10) i)) := aI_hp (h.2.2.2.2.2.2.2.2.2.2.1) (by decide) h0 h1
theorem Hel10_s {a : Nat} (h : HelS S a) (h0 : 0 ≤ i) (h1 : i < 4) : sI (hp S m q) (a + 10) (J i) (J x) = some (hp S (up m (a + 10) i x) q) := sI_hp (h.2.2.2.2.2.2.2.2.2.2.1) (by decide) h0 h1
theorem Hel10_l {a : Nat} (h : HelS S a) : aL (hp S m q) (a + 10) = some (J 4) := aL_hp (h.2.2.2.2.2.2.2.2.2.2.1)
theorem Hel11_g {a : Nat} (h : HelS S a) (h0 : 0 ≤ i) (h1 : i < 4) : aI (hp S m q) (a + 11) (J i) = some (J (m (a + 11) i)) := aI_hp (h.2.2.2.2.2.2.2.2.2.2.2) (by decide) h0 h1
theorem Hel11_s {a : Nat} (h : HelS S a) (h0 : 0 ≤ i) (h1 : i < 4) : sI (hp S m q) (a + 11) (J i) (J x) = some (hp S (up m (a + 11) i x) q) := sI_hp (h.2.2.2.2.2.2.2.2.2.2.2) (by decide) h0 h1
theorem Hel11_l {a : Nat} (h : HelS S a) : aL (hp S m q) (a + 11) = some (J 4) := aL_hp (h.2.2.2.2.2.2.2.2.2.2.2)
theorem Sk.Hel (h : Sk S) : HelS S 99 := ⟨h.at 99, h.at 100, h.at 101, h.at 102, h.at 103, h.at 104, h.at 105, h.at 106, h.at 107, h.at 108, h.at 109, h.at 110⟩
theorem Sk.Net46 (h : Sk S) : NetS S 46 16 10 := ⟨h.at 46, h.at 47, h.at 48, h.at 49, h.at 50, h.at 51, h.at 52, h.at 53, h.at 54, h.at 55, h.at 56, h.at 57, h.at 58, h.at 59, h.at 60, h.at 61, h.at 62, h.at 63, h.at 64, h.at 65, h.at 66, h.at 67⟩
theorem Sk.Net68 (h : Sk S) : NetS S 68 16 10 := ⟨h.at 68, h.at 69, h.at 70, h.at 71, h.at 72, h.at 73, h.at 74, h.at 75, h.at 76, h.at 77, h.at 78, h.at 79, h.at 80, h.at 81, h.at 82, h.at 83, h.at 84, h.at 85, h.at 86, h.at 87, h.at 88, h.at 89⟩
theorem Sk.Rul2 (h : Sk S) : RulS S 2 := ⟨h.at 2, h.at 3, h.at 4, h.at 5, h.at 6, h.at 7⟩
theorem Sk.Net111 (h : Sk S) : ∃ r, (r = 2 ∨ r = 10) ∧ NetS S 111 16 r := by
  obtain ⟨h1, -, r, hr, h2⟩ := h
  exact ⟨r, hr, h2, h1 112 (by decide) (by decide) (by decide), h1 113 (by decide) (by decide) (by decide), h1 114 (by decide) (by decide) (by decide), h1 115 (by decide) (by decide) (by decide), h1 116 (by decide) (by decide) (by decide), h1 117 (by decide) (by decide) (by decide), h1 118 (by decide) (by decide) (by decide), h1 119 (by decide) (by decide) (by decide), h1 120 (by decide) (by decide) (by decide), h1 121 (by decide) (by decide) (by decide), h1 122 (by decide) (by decide) (by decide), h1 123 (by decide) (by decide) (by decide), h1 124 (by decide) (by decide) (by decide), h1 125 (by decide) (by decide) (by decide), h1 126 (by decide) (by decide) (by decide), h1 127 (by decide) (by decide) (by decide), h1 128 (by decide) (by decide) (by decide), h1 129 (by decide) (by decide) (by decide), h1 130 (by decide) (by decide) (by decide), h1 131 (by decide) (by decide) (by decide), h1 132 (by decide) (by decide) (by decide)⟩
end SKX
