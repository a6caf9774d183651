/-! WHAT HOLDS BETWEEN TWO CALLS: the class's cells beside the reference's numbers (w: world, v: now) -/
def Rpar (pace price : Int) (w : Int → Int) : Prop := pace = w 6 ∧ 1 ≤ w 6 ∧ w 6 ≤ 8 ∧ price = w 7 ∧ 0 ≤ w 7 ∧ w 7 ≤ 1000
def Rhid (hid : Int) (w : Int → Int) : Prop := 0 ≤ hid ∧ hid < 65536 ∧ ∀ p : Int, 0 ≤ p → p < 16 → w (1120 + p) = if hid.toNat.testBit p.toNat then 1 else 0
def Rprt (s : Int) (a b c w : Int → Int) : Prop := s = w 8 ∧ 0 ≤ w 8 ∧ w 8 ≤ 7 ∧ ∀ k : Int, 0 ≤ k → k < w 8 → (a k = w (1061 + 3 * k) ∧ b k = w (1061 + 3 * k + 1) ∧ c k = w (1061 + 3 * k + 2)) ∧ (-1 ≤ a k ∧ a k ≤ 99 ∧ -1 ≤ b k ∧ b k ≤ 99 ∧ -1 ≤ c k ∧ c k ≤ 9)
def Rsto (n : Int) (a b c d e f w : Int → Int) : Prop := n = w 9 ∧ 0 ≤ w 9 ∧ w 9 ≤ 5 ∧ ∀ s : Int, 0 ≤ s → s < w 9 → (a s = w (1082 + 6 * s) ∧ b s = w (1082 + 6 * s + 1) ∧ c s = w (1082 + 6 * s + 2) ∧ d s = w (1082 + 6 * s + 3) ∧ e s = w (1082 + 6 * s + 4) ∧ f s = w (1082 + 6 * s + 5)) ∧ (0 ≤ a s ∧ a s ≤ 15 ∧ 0 ≤ b s ∧ b s ≤ 100 ∧ 0 ≤ c s ∧ c s ≤ 100 ∧ 0 ≤ d s ∧ d s ≤ 20 ∧ 1 ≤ e s ∧ e s ≤ 1000 ∧ 0 ≤ f s ∧ f s ≤ 400)
def Rgan (n : Int) (a b w : Int → Int) : Prop := n = w 10 ∧ 0 ≤ w 10 ∧ w 10 ≤ 4 ∧ ∀ g : Int, 0 ≤ g → g < w 10 → (a g = w (1112 + 2 * g) ∧ b g = w (1112 + 2 * g + 1)) ∧ (0 ≤ a g ∧ a g ≤ 15 ∧ 1 ≤ b g ∧ b g ≤ 100)
/-- F k: the row of the words' facts number k (9: the verdicts) -/
def Rwrd (n : Int) (F : Int → Int → Int) (und : Int → Int) (w v : Int → Int) : Prop := n = w 1 ∧ 0 ≤ w 1 ∧ w 1 ≤ 30 ∧
  (∀ x k : Int, 0 ≤ x → x < w 1 → 0 ≤ k → k < 10 → F k x = w (761 + 10 * x + k)) ∧
  (∀ x : Int, 0 ≤ x → x < w 1 → (0 ≤ F 0 x ∧ F 0 x ≤ 5 ∧ 0 ≤ F 1 x ∧ F 1 x < w 0 ∧ 0 ≤ F 2 x ∧ F 2 x ≤ v 0 ∧ 1 ≤ F 3 x ∧ F 3 x ≤ 200 ∧ 0 ≤ F 4 x ∧ F 4 x ≤ 15 ∧ 0 ≤ F 5 x ∧ F 5 x ≤ 15) ∧ (-2147483648 ≤ F 6 x ∧ F 6 x < 2147483648 ∧ (F 0 x ≤ 1 → 0 ≤ F 6 x ∧ F 6 x ≤ 400)) ∧ (0 ≤ F 7 x ∧ F 7 x ≤ 9999 ∧ -1 ≤ F 8 x ∧ F 8 x < x ∧ 0 ≤ F 9 x ∧ F 9 x ≤ 2)) ∧
  (∀ x y : Int, 0 ≤ x → x ≤ y → y < w 1 → F 2 x ≤ F 2 y) ∧
  (∀ x k : Int, w 1 ≤ x → x < 30 → 4 ≤ k → k < 10 → k ≠ 8 → F k x = 0) ∧
  (∀ x : Int, 0 ≤ x → x < 30 → 0 ≤ und x ∧ und x < 1073741824 ∧ ∀ u : Int, 0 ≤ u → u < 30 → ((und x).toNat.testBit u.toNat = true ↔ u < w 1 ∧ w (761 + 10 * u + 8) = x))
def Rwlk (n : Int → Int) (A B C : Int → Int → Int) (w : Int → Int) : Prop := ∀ l : Int, 0 ≤ l → l < 4 → n l = w (2 + l) ∧ 0 ≤ w (2 + l) ∧ w (2 + l) ≤ 60 ∧ ∀ k : Int, 0 ≤ k → k < w (2 + l) → (A l k = w (41 + 3 * (60 * l + k)) ∧ B l k = w (41 + 3 * (60 * l + k) + 1) ∧ C l k = w (41 + 3 * (60 * l + k) + 2)) ∧ (0 ≤ A l k ∧ A l k < w 0 ∧ 1 ≤ B l k ∧ B l k ≤ 400 ∧ 0 ≤ C l k ∧ C l k ≤ 15)
def Rrow (s : Int) (was shown w v : Int → Int) : Prop := s = min 8 (v 0) ∧ ∀ i : Int, 0 ≤ i → i < min 8 (v 0) → (shown i = w (1136 + 2 * (v 0 - min 8 (v 0) + 1 + i)) ∧ was i = w (1136 + 2 * (v 0 - min 8 (v 0) + 1 + i) + 1)) ∧ (-2147483648 ≤ shown i ∧ shown i < 2147483648 ∧ 0 ≤ was i ∧ was i ≤ 300)
/-- a step as the class keeps it -/
def encS (s t : Int) : Int := if s < 7 then 16 * s else if s < 200 then 256 * t + 16 * (s - 100) + 1 else if s < 300 then 256 * t + 16 * (s - 200) + 2 else s - 297
/-- what the steps i to e do to a pile of d bits: none if there are too few or too many -/
def wfS (g : Int → Int) (i : Int) : Nat → Int → Option Int
  | 0, d => some d
  | n + 1, d => if g (41 + 2 * i) = 300 then (if 1 ≤ d then wfS g (i + 1) n d else none) else if 300 < g (41 + 2 * i) then (if 2 ≤ d then wfS g (i + 1) n (d - 1) else none) else if d < 60 then wfS g (i + 1) n (d + 1) else none
def Rrul (lines steps : Int) (kind number begin step g : Int → Int) : Prop := lines = g 0 ∧ 0 ≤ g 0 ∧ g 0 ≤ 10 ∧ 0 ≤ steps ∧ steps ≤ 200 ∧
  (∀ n : Int, 0 ≤ n → n < g 0 → (kind n = g (1 + 4 * n) ∧ number n = g (1 + 4 * n + 1) ∧ begin n = g (1 + 4 * n + 2) ∧ begin (n + 1) = g (1 + 4 * n + 3)) ∧ (0 ≤ kind n ∧ kind n ≤ 3 ∧ 0 ≤ number n ∧ number n ≤ 9999 ∧ (kind n = 2 → number n ≤ 100) ∧ 0 ≤ begin n ∧ begin n ≤ begin (n + 1) ∧ begin (n + 1) ≤ steps) ∧ (begin n < begin (n + 1) → wfS g (begin n) (begin (n + 1) - begin n).toNat 0 = some 1)) ∧
  (∀ i : Int, 0 ≤ i → i < steps → (step i = encS (g (41 + 2 * i)) (g (41 + 2 * i + 1))) ∧ 0 ≤ g (41 + 2 * i + 1) ∧ g (41 + 2 * i + 1) ≤ 9999 ∧ (0 ≤ g (41 + 2 * i) ∧ g (41 + 2 * i) < 7 ∨ 100 ≤ g (41 + 2 * i) ∧ g (41 + 2 * i) < 105 ∨ 200 ≤ g (41 + 2 * i) ∧ g (41 + 2 * i) < 205 ∨ 300 ≤ g (41 + 2 * i) ∧ g (41 + 2 * i) ≤ 302))
/-- how many words a phone has, of the first n; how many phones have a word -/
def cntw (v : Int → Int) (p : Int) : Nat → Int
  | 0 => 0
  | n + 1 => cntw v p n + (if v (51 + 7 * (30 * p + n) + 0) = 1 then 1 else 0)
def cntp (v : Int → Int) (x : Int) : Nat → Int
  | 0 => 0
  | n + 1 => cntp v x n + (if v (51 + 7 * (30 * n + x) + 0) = 1 then 1 else 0)
/-- a path: the class's long beside the reference's two ints; each hand is a phone -/
def Rpth (L : Int64) (a b hops ph : Int) : Prop := 0 ≤ a ∧ a < 268435456 ∧ 0 ≤ b ∧ b < 1048576 ∧ L = Int64.ofInt (a + 268435456 * b) ∧ 0 ≤ hops ∧ hops ≤ 12 ∧ a + 268435456 * b < 16 ^ hops.toNat ∧ ∀ i : Nat, (i : Int) < hops → (a + 268435456 * b) / 16 ^ i % 16 < ph
/-- a net at a tick: N its rows, D its long rows -/
def Rnet (N : Nat → Int → Int) (D : Nat → Int → Int64) (told : Int) (w v : Int → Int) : Prop :=
  (N 0 3 = w 0 ∧ N 0 2 = v 0 ∧ N 0 4 = told ∧ 0 ≤ v 0 ∧ v 0 ≤ 400 ∧ 0 ≤ told ∧ told ≤ w 1) ∧
  (∀ p : Int, 0 ≤ p → p < w 0 → (N 2 p = v (1 + 5 * p + 0) ∧ N 3 p = v (1 + 5 * p + 1) ∧ N 5 p = w (11 + 3 * p + 1) ∧ N 6 p = w (11 + 3 * p + 2) ∧ N 7 p = v (1 + 5 * p + 2) ∧ N 8 p = v (1 + 5 * p + 3) ∧ N 9 p = v (1 + 5 * p + 4)) ∧ (0 ≤ N 2 p ∧ N 2 p ≤ 15 ∧ 0 ≤ N 3 p ∧ N 3 p ≤ 1000)) ∧
  (∀ p : Int, 0 ≤ p → p < 10 → N 4 p = cntw v p 30 ∧ 0 ≤ N 16 p ∧ N 16 p < 1073741824 ∧ (w 0 ≤ p → N 7 p = 0 ∧ N 8 p = 0 ∧ N 9 p = 0)) ∧
  (∀ p x : Int, 0 ≤ p → p < 10 → 0 ≤ x → x < 30 → (v (51 + 7 * (30 * p + x) + 0) = if (N 16 p).toNat.testBit x.toNat then 1 else 0) ∧ (v (51 + 7 * (30 * p + x) + 0) = 1 → (p < w 0 ∧ x < told) ∧ (N 11 (30 * p + x) = v (51 + 7 * (30 * p + x) + 1) ∧ N 12 (30 * p + x) = v (51 + 7 * (30 * p + x) + 2) ∧ N 13 (30 * p + x) = v (51 + 7 * (30 * p + x) + 3) ∧ N 14 (30 * p + x) = v (51 + 7 * (30 * p + x) + 4)) ∧ (0 ≤ N 11 (30 * p + x) ∧ N 11 (30 * p + x) ≤ 9999) ∧ Rpth (D 15 (30 * p + x)) (v (51 + 7 * (30 * p + x) + 5)) (v (51 + 7 * (30 * p + x) + 6)) (N 12 (30 * p + x)) (w 0))) ∧
  (∀ x : Int, 0 ≤ x → x < 30 → N 17 x = cntp v x 10 ∧ (told ≤ x → N 18 x = -1) ∧ (N 18 x = -1 → N 19 x = 0)) ∧
  (∀ x : Int, 0 ≤ x → x < told → N 18 x = v (2151 + 5 * x + 0) ∧ -1 ≤ N 18 x ∧ N 18 x ≤ v 0 ∧ (0 ≤ N 18 x → N 19 x = v (2151 + 5 * x + 4) ∧ Rpth (D 20 x) (v (2151 + 5 * x + 2)) (v (2151 + 5 * x + 3)) (N 19 x) (w 0)))
/-- where a phone is at a tick, by the first n moves of a lot: the last told of the latest tick; e: the tick of the found one -/
def plcF (w : Int → Int) (l p t : Int) : Nat → Int
  | 0 => -1
  | n + 1 => if w (41 + 3 * (60 * l + n)) = p ∧ w (41 + 3 * (60 * l + n) + 1) ≤ t ∧ (plcF w l p t n < 0 ∨ w (plcF w l p t n + 1) ≤ w (41 + 3 * (60 * l + n) + 1)) then 41 + 3 * (60 * l + n) else plcF w l p t n
def plcA (w : Int → Int) (l p t : Int) : Int := if plcF w l p t (w (2 + l)).toNat < 0 then w (11 + 3 * p + 0) else w (plcF w l p t (w (2 + l)).toNat + 2)
/-- what a phone was told -/
def Rtol (w : Int → Int) : Prop := 0 ≤ w 0 ∧ w 0 ≤ 10 ∧ ∀ p : Int, 0 ≤ p → p < w 0 → 0 ≤ w (11 + 3 * p + 0) ∧ w (11 + 3 * p + 0) ≤ 15 ∧ 1 ≤ w (11 + 3 * p + 1) ∧ w (11 + 3 * p + 1) ≤ 12 ∧ 0 ≤ w (11 + 3 * p + 2) ∧ w (11 + 3 * p + 2) ≤ 9
/-- the places of a net are those of its lot -/
def Rplc (l : Int) (w v : Int → Int) : Prop := ∀ p : Int, 0 ≤ p → p < w 0 → v (1 + 5 * p + 0) = plcA w l p (v 0)
/-- the dawn: START, once a tick has been -/
def Rdwn (N : Nat → Int → Int) (D : Nat → Int → Int64) (w v : Int → Int) : Prop := 0 < v 0 → w 1938 = 0 ∧ (∀ p : Int, 0 ≤ p → p < w 0 → w (1938 + (1 + 5 * p + 0)) = w (11 + 3 * p + 0)) ∧ ∃ told, Rnet N D told w (fun k => w (1938 + k)) ∧ ∀ x : Int, 0 ≤ x → x < w 1 → (x < told ↔ w (761 + 10 * x + 2) = 0)
def Rtown (t : Nat) (m : Nat → Int → Int) (q : Nat → Int → Int64) (w v : Int → Int) : Prop :=
  Rpar (m t 8) (m (t + 84) 6) w ∧ Rhid (m t 9) w ∧ Rprt (m (t + 84) 5) (m (t + 85)) (m (t + 86)) (m (t + 87)) w ∧
  Rsto (m (t + 90) 5) (m (t + 92)) (m (t + 93)) (m (t + 94)) (m (t + 95)) (m (t + 96)) (m (t + 97)) w ∧ Rgan (m (t + 90) 6) (m (t + 98)) (m (t + 99)) w ∧
  Rwrd (m (t + 7) 3) (fun k => if k = 9 then m (t + 19) else m (t + 9 + k.toNat)) (m (t + 18)) w v ∧
  Rwlk (m (t + 36)) (fun l => m (t + 22 + l.toNat)) (fun l => m (t + 27 + l.toNat)) (fun l => m (t + 32 + l.toNat)) w ∧
  Rrow (m (t + 81) 2) (m (t + 82)) (m (t + 83)) w v ∧
  Rrul (m (t + 1) 3) (m (t + 1) 5) (m (t + 2)) (m (t + 3)) (m (t + 4)) (m (t + 5)) (fun k => w (4239 + k)) ∧
  Rtol w ∧ Rplc 0 w v ∧
  Rnet (fun o => m (t + 37 + o)) (fun o => q (t + 37 + o)) (w 1) w v ∧
  Rdwn (fun o => m (t + 59 + o)) (fun o => q (t + 59 + o)) w v
/-- the tape -/
def Rtap (len wrong : Int) (b : Int → Int) (len' wrong' : Int) (b' : Int → Int) : Prop := len = len' ∧ 0 ≤ len ∧ len ≤ 400 ∧ wrong = wrong' ∧ -1 ≤ wrong ∧ wrong ≤ 400 ∧ ∀ i : Int, 0 ≤ i → i < len → b i = b' i ∧ -128 ≤ b i ∧ b i < 128
/-- the kept town; and the draft's first line begins at its first step -/
def Rkep (S : xH) (m : Nat → Int → Int) (q : Nat → Int → Int64) : Prop := m 5 0 = 0 ∧ (
  (m 136 5 = 0 ∧ S.2.2 0 = .inr (10, [.ref 1, .ref 9, .ref 111, .ref 133, .null])) ∨
  (m 136 5 = 1 ∧ ∃ K, 153 ≤ K ∧ K + 102 ≤ S.1 ∧ S.2.2 0 = .inr (10, [.ref 1, .ref 9, .ref 111, .ref 133, .ref K]) ∧
    S.2.2 K = .inr (7, [.ref (K + 1), .ref (K + 7), .ref (K + 20), .ref (K + 37), .ref (K + 59), .ref (K + 81), .ref (K + 84), .ref (K + 90), .int 0, .int 0]) ∧
    RulS S (K + 1) ∧ WrdS S (K + 7) ∧ WlkS S (K + 20) ∧ NetS S (K + 37) (K + 7) (K + 1) ∧ NetS S (K + 59) (K + 7) (K + 1) ∧ RowS S (K + 81) ∧ ParS S (K + 84) ∧ HelS S (K + 90) ∧
    Rtown K m q (m 140) (fun k => m 140 (5080 + k))))
/-- the room that is left behind j calls -/
def Room (S : xH) (j : Nat) : Prop := 153 ≤ S.1 ∧ S.1 ≤ 255 + 102 * j ∧ S.2.1 ≤ 31231 + 5000 * j
def InvM (S : xH) (m : Nat → Int → Int) (q : Nat → Int → Int64) : Prop := Rtap (m 1 2) (m 1 3) (m 8) (m 136 9) (m 136 14) (m 141) ∧ m 136 6 = 0 ∧ m 136 7 = 0 ∧ Rtown 9 m q (m 139) (m 137) ∧ Rkep S m q
def Inv (j : Nat) (P : xH) : Prop := ∃ S m q, P = hp S m q ∧ Sk S ∧ Room S j ∧ InvM S m q
/-! each of them over other numbers that are alike where it looks -/
theorem Rpar.w {a b : Int} {w w' : Int → Int} (h : Rpar a b w) (e6 : w' 6 = w 6) (e7 : w' 7 = w 7) : Rpar a b w' := by
  unfold Rpar at *
  rw [e6, e7]
  exact h
theorem Rhid.w {a : Int} {w w' : Int → Int} (h : Rhid a w) (e : ∀ i, 1120 ≤ i → i < 1136 → w' i = w i) : Rhid a w' :=
  ⟨h.1, h.2.1, fun p h0 h1 => (e _ (by omega) (by omega)).trans (h.2.2 p h0 h1)⟩
theorem Rprt.w {s : Int} {a b c w w' : Int → Int} (h : Rprt s a b c w) (e8 : w' 8 = w 8) (e : ∀ i, 1061 ≤ i → i < 1082 → w' i = w i) : Rprt s a b c w' := by
  obtain ⟨h1, h2, h3, h4⟩ := h
  refine ⟨by omega, by omega, by omega, fun k k0 k1 => ?_⟩
  rw [e _ (by omega) (by omega), e _ (by omega) (by omega), e _ (by omega) (by omega)]
  exact h4 k k0 (by omega)
theorem Rsto.w {n : Int} {a b c d f g w w' : Int → Int} (h : Rsto n a b c d f g w) (e8 : w' 9 = w 9) (e : ∀ i, 1082 ≤ i → i < 1112 → w' i = w i) : Rsto n a b c d f g w' := by
  obtain ⟨h1, h2, h3, h4⟩ := h
  refine ⟨by omega, by omega, by omega, fun k k0 k1 => ?_⟩
  rw [e _ (by omega) (by omega), e _ (by omega) (by omega), e _ (by omega) (by omega), e _ (by omega) (by omega), e _ (by omega) (by omega), e _ (by omega) (by omega)]
  exact h4 k k0 (by omega)
theorem Rgan.w {n : Int} {a b w w' : Int → Int} (h : Rgan n a b w) (e8 : w' 10 = w 10) (e : ∀ i, 1112 ≤ i → i < 1120 → w' i = w i) : Rgan n a b w' := by
  obtain ⟨h1, h2, h3, h4⟩ := h
  refine ⟨by omega, by omega, by omega, fun k k0 k1 => ?_⟩
  rw [e _ (by omega) (by omega), e _ (by omega) (by omega)]
  exact h4 k k0 (by omega)
theorem Rwrd.w {n : Int} {F F' : Int → Int → Int} {u u' w v w' v' : Int → Int} (h : Rwrd n F u w v) (eF : ∀ k x : Int, 0 ≤ k → k < 10 → 0 ≤ x → x < 30 → F' k x = F k x) (eu : u' = u) (e0 : w' 0 = w 0) (e1 : w' 1 = w 1) (e : ∀ i, 761 ≤ i → i < 1061 → w' i = w i) (ev : v 0 ≤ v' 0) : Rwrd n F' u' w' v' := by
  obtain ⟨h1, h2, h3, h4, h5, h6, h7, h8⟩ := h
  subst eu
  refine ⟨by omega, by omega, by omega, fun x k x0 x1 k0 k1 => ?_, fun x x0 x1 => ?_, fun x y x0 xy y1 => by rw [eF 2 x (by omega) (by omega) (by omega) (by omega), eF 2 y (by omega) (by omega) (by omega) (by omega)]; exact h6 x y x0 xy (by omega), fun x k x0 x1 k0 k1 k2 => by rw [eF k x (by omega) k1 (by omega) x1]; exact h7 x k (by omega) x1 k0 k1 k2, fun x x0 x1 => ?_⟩
  · rw [e _ (by omega) (by omega), eF k x k0 k1 x0 (by omega)]
    exact h4 x k x0 (by omega) k0 k1
  · rw [eF 0 x (by omega) (by omega) (by omega) (by omega), eF 1 x (by omega) (by omega) (by omega) (by omega), eF 2 x (by omega) (by omega) (by omega) (by omega), eF 3 x (by omega) (by omega) (by omega) (by omega), eF 4 x (by omega) (by omega) (by omega) (by omega), eF 5 x (by omega) (by omega) (by omega) (by omega), eF 6 x (by omega) (by omega) (by omega) (by omega), eF 7 x (by omega) (by omega) (by omega) (by omega), eF 8 x (by omega) (by omega) (by omega) (by omega), eF 9 x (by omega) (by omega) (by omega) (by omega)]
    obtain ⟨⟨a1, a2, a3, a4, a5, a6, a7⟩, b⟩ := h5 x x0 (by omega)
    exact ⟨⟨a1, a2, a3, by omega, a5, by omega, a7⟩, b⟩
  · obtain ⟨a1, a2, a3⟩ := h8 x x0 x1
    refine ⟨a1, a2, fun y y0 y1 => ?_⟩
    rw [e1, e (761 + 10 * y + 8) (by omega) (by omega)]
    exact a3 y y0 y1
theorem Rwlk.w {n n' : Int → Int} {A B C A' B' C' : Int → Int → Int} {w w' : Int → Int} (h : Rwlk n A B C w) (en : n' = n) (eA : ∀ l : Int, 0 ≤ l → l < 4 → A' l = A l) (eB : ∀ l : Int, 0 ≤ l → l < 4 → B' l = B l) (eC : ∀ l : Int, 0 ≤ l → l < 4 → C' l = C l) (e0 : w' 0 = w 0) (e1 : ∀ i, 2 ≤ i → i < 6 → w' i = w i) (e : ∀ i, 41 ≤ i → i < 761 → w' i = w i) : Rwlk n' A' B' C' w' := by
  intro l l0 l1
  rw [en, eA l l0 l1, eB l l0 l1, eC l l0 l1]
  obtain ⟨a1, a2, a3, a4⟩ := h l l0 l1
  have e2 := e1 (2 + l) (by omega) (by omega)
  refine ⟨by omega, by omega, by omega, fun k k0 k1 => ?_⟩
  rw [e _ (by omega) (by omega), e _ (by omega) (by omega), e _ (by omega) (by omega), e0]
  exact a4 k k0 (by omega)
theorem Rrow.w {s : Int} {a b w v w' v' : Int → Int} (h : Rrow s a b w v) (e : ∀ i, 1136 ≤ i → i < 1938 → w' i = w i) (ev : v' 0 = v 0) (hv : v 0 ≤ 400) : Rrow s a b w' v' := by
  obtain ⟨h1, h2⟩ := h
  refine ⟨by omega, fun i i0 i1 => ?_⟩
  rw [ev] at i1 ⊢
  rw [e _ (by omega) (by omega), e _ (by omega) (by omega)]
  exact h2 i i0 i1
theorem Rtol.w {w w' : Int → Int} (h : Rtol w) (e0 : w' 0 = w 0) (e : ∀ i, 11 ≤ i → i < 41 → w' i = w i) : Rtol w' := by
  obtain ⟨h1, h2, h3⟩ := h
  refine ⟨by omega, by omega, fun p p0 p1 => ?_⟩
  rw [e _ (by omega) (by omega), e _ (by omega) (by omega), e _ (by omega) (by omega)]
  exact h3 p p0 (by omega)
theorem wfS_congr {g g' : Int → Int} : ∀ (n : Nat) (i d : Int), (∀ k : Int, i ≤ k → k < i + n → g' (41 + 2 * k) = g (41 + 2 * k)) → wfS g' i n d = wfS g i n d
  | 0, i, d, _ => rfl
  | n + 1, i, d, h => by
    have e := h i (by omega) (by omega)
    have ih : ∀ d, wfS g' (i + 1) n d = wfS g (i + 1) n d := fun d => wfS_congr n (i + 1) d (fun k h1 h2 => h k (by omega) (by omega))
    simp only [wfS, e, ih]
theorem Rrul.w {l s : Int} {a b c d g g' : Int → Int} (h : Rrul l s a b c d g) (e : ∀ i, 0 ≤ i → i < 841 → g' i = g i) : Rrul l s a b c d g' := by
  obtain ⟨h1, h2, h3, h4, h5, h6, h7⟩ := h
  have e0 := e 0 (by omega) (by omega)
  refine ⟨by omega, by omega, by omega, h4, h5, fun n n0 n1 => ?_, fun i i0 i1 => ?_⟩
  · obtain ⟨a1, a2, a3⟩ := h6 n n0 (by omega)
    rw [e _ (by omega) (by omega), e _ (by omega) (by omega), e _ (by omega) (by omega), e _ (by omega) (by omega)]
    refine ⟨a1, a2, fun c => ?_⟩
    rw [wfS_congr _ _ _ (fun k k0 k1 => e _ (by omega) (by omega))]
    exact a3 c
  · rw [e _ (by omega) (by omega), e _ (by omega) (by omega)]
    exact h7 i i0 i1
theorem cntw_congr {v v' : Int → Int} (p : Int) (p0 : 0 ≤ p) (p1 : p < 10) (e : ∀ i, 51 ≤ i → i < 2151 → v' i = v i) : ∀ n : Nat, n ≤ 30 → cntw v' p n = cntw v p n
  | 0, _ => rfl
  | n + 1, h => by
    rw [cntw, cntw, cntw_congr p p0 p1 e n (by omega), e _ (by omega) (by omega)]
theorem cntp_congr {v v' : Int → Int} (x : Int) (p0 : 0 ≤ x) (p1 : x < 30) (e : ∀ i, 51 ≤ i → i < 2151 → v' i = v i) : ∀ n : Nat, n ≤ 10 → cntp v' x n = cntp v x n
  | 0, _ => rfl
  | n + 1, h => by
    rw [cntp, cntp, cntp_congr x p0 p1 e n (by omega), e _ (by omega) (by omega)]
theorem Rnet.congr {N N' : Nat → Int → Int} {D D' : Nat → Int → Int64} {told : Int} {w w' v v' : Int → Int} (h : Rnet N D told w v) (hw : w 0 ≤ 10) (ea : ∀ i : Int, 2 ≤ i → i ≤ 4 → N' 0 i = N 0 i) (e1 : ∀ o, 2 ≤ o → o ≤ 19 → N' o = N o) (e2 : ∀ o, 15 ≤ o → o ≤ 20 → D' o = D o) (e3 : w' 0 = w 0) (e4 : w 1 ≤ w' 1) (e5 : ∀ i, 11 ≤ i → i < 41 → w' i = w i) (e6 : ∀ i, 0 ≤ i → i < 2301 → v' i = v i) (ht : told ≤ 30) : Rnet N' D' told w' v' := by
  obtain ⟨h1, h2, h3, h4, h5, h6⟩ := h
  have e0 := e6 0 (by omega) (by omega)
  refine ⟨?_, fun p p0 p1 => ?_, fun p p0 p1 => ?_, fun p x p0 p1 x0 x1 => ?_, fun x x0 x1 => ?_, fun x x0 x1 => ?_⟩
  · rw [ea 2 (by omega) (by omega), ea 3 (by omega) (by omega), ea 4 (by omega) (by omega), e0, e3]
    exact ⟨h1.1, h1.2.1, h1.2.2.1, h1.2.2.2.1, h1.2.2.2.2.1, h1.2.2.2.2.2.1, by omega⟩
  · rw [e1 2 (by omega) (by omega), e1 3 (by omega) (by omega), e1 5 (by omega) (by omega), e1 6 (by omega) (by omega), e1 7 (by omega) (by omega), e1 8 (by omega) (by omega), e1 9 (by omega) (by omega), e6 _ (by omega) (by omega), e6 _ (by omega) (by omega), e6 _ (by omega) (by omega), e6 _ (by omega) (by omega), e6 _ (by omega) (by omega), e5 _ (by omega) (by omega), e5 _ (by omega) (by omega)]
    exact h2 p p0 (by omega)
  · rw [e1 4 (by omega) (by omega), e1 16 (by omega) (by omega), e1 7 (by omega) (by omega), e1 8 (by omega) (by omega), e1 9 (by omega) (by omega), e3, cntw_congr p p0 p1 (fun i a b => e6 i (by omega) (by omega)) 30 (by omega)]
    exact h3 p p0 p1
  · rw [e1 16 (by omega) (by omega), e1 11 (by omega) (by omega), e1 12 (by omega) (by omega), e1 13 (by omega) (by omega), e1 14 (by omega) (by omega), e2 15 (by omega) (by omega), e3, e6 _ (by omega) (by omega), e6 _ (by omega) (by omega), e6 _ (by omega) (by omega), e6 _ (by omega) (by omega), e6 _ (by omega) (by omega), e6 _ (by omega) (by omega), e6 _ (by omega) (by omega)]
    exact h4 p x p0 p1 x0 x1
  · rw [e1 17 (by omega) (by omega), e1 18 (by omega) (by omega), e1 19 (by omega) (by omega), cntp_congr x x0 x1 (fun i a b => e6 i (by omega) (by omega)) 10 (by omega)]
    exact h5 x x0 x1
  · rw [e1 18 (by omega) (by omega), e1 19 (by omega) (by omega), e2 20 (by omega) (by omega), e3, e0, e6 _ (by omega) (by omega), e6 _ (by omega) (by omega), e6 _ (by omega) (by omega), e6 _ (by omega) (by omega)]
    exact h6 x x0 x1
theorem plcF_congr {w w' : Int → Int} {l p t : Int} (l0 : 0 ≤ l) (l1 : l < 4) (e : ∀ i, 41 ≤ i → i < 761 → w' i = w i) : ∀ n : Nat, n ≤ 60 → plcF w' l p t n = plcF w l p t n ∧ (0 ≤ plcF w l p t n → 41 ≤ plcF w l p t n ∧ plcF w l p t n < 759)
  | 0, _ => ⟨rfl, fun h => absurd h (by simp [plcF])⟩
  | n + 1, h => by
    obtain ⟨i1, i2⟩ := plcF_congr (l := l) (p := p) (t := t) l0 l1 e n (by omega)
    have a1 := e (41 + 3 * (60 * l + n)) (by omega) (by omega)
    have a2 := e (41 + 3 * (60 * l + n) + 1) (by omega) (by omega)
    have a3 : plcF w l p t n < 0 ∨ w' (plcF w l p t n + 1) = w (plcF w l p t n + 1) := by
      by_cases c : plcF w l p t n < 0
      · exact Or.inl c
      · have := i2 (by omega)
        exact Or.inr (e _ (by omega) (by omega))
    constructor
    · rw [plcF, plcF, i1, a1, a2]
      rcases a3 with a3 | a3
      · simp only [a3, true_or]
      · rw [a3]
    · rw [plcF]
      split
      · intro _
        omega
      · exact i2
theorem plcA_congr {w w' : Int → Int} {l p t : Int} (l0 : 0 ≤ l) (l1 : l < 4) (p0 : 0 ≤ p) (p1 : p < 10) (hn : w (2 + l) ≤ 60) (e1 : ∀ i, 2 ≤ i → i < 6 → w' i = w i) (e2 : ∀ i, 11 ≤ i → i < 41 → w' i = w i) (e : ∀ i, 41 ≤ i → i < 761 → w' i = w i) : plcA w' l p t = plcA w l p t := by
  unfold plcA
  obtain ⟨i1, i2⟩ := plcF_congr (l := l) (p := p) (t := t) l0 l1 e (w (2 + l)).toNat (by omega)
  rw [e1 _ (by omega) (by omega), i1, e2 _ (by omega) (by omega)]
  by_cases c : plcF w l p t (w (2 + l)).toNat < 0
  · rw [if_pos c, if_pos c]
  · have := i2 (by omega)
    rw [if_neg c, if_neg c, e _ (by omega) (by omega)]
theorem Rplc.w {l : Int} {w v w' v' : Int → Int} (h : Rplc l w v) (hw : w 0 ≤ 10) (l0 : 0 ≤ l) (l1 : l < 4) (hn : w (2 + l) ≤ 60) (e0 : w' 0 = w 0) (e1 : ∀ i, 2 ≤ i → i < 6 → w' i = w i) (e2 : ∀ i, 11 ≤ i → i < 41 → w' i = w i) (e : ∀ i, 41 ≤ i → i < 761 → w' i = w i) (ev : ∀ i, 0 ≤ i → i < 51 → v' i = v i) : Rplc l w' v' := by
  intro p p0 p1
  rw [ev _ (by omega) (by omega), ev _ (by omega) (by omega), plcA_congr l0 l1 p0 (by omega) hn e1 e2 e]
  exact h p p0 (by omega)
theorem Rdwn.congr {N N' : Nat → Int → Int} {D D' : Nat → Int → Int64} {w w' v v' : Int → Int} (h : Rdwn N D w v) (hw : w 0 ≤ 10) (hw1 : w 1 ≤ 30) (ea : ∀ i : Int, 2 ≤ i → i ≤ 4 → N' 0 i = N 0 i) (e1 : ∀ o, 2 ≤ o → o ≤ 19 → N' o = N o) (e2 : ∀ o, 15 ≤ o → o ≤ 20 → D' o = D o) (e3 : w' 0 = w 0) (e4 : w' 1 = w 1) (e5 : ∀ i, 11 ≤ i → i < 41 → w' i = w i) (e6 : ∀ x : Int, 0 ≤ x → x < 30 → w' (761 + 10 * x + 2) = w (761 + 10 * x + 2)) (e7 : ∀ i, 1938 ≤ i → i < 4239 → w' i = w i) (e8 : v' 0 = v 0) : Rdwn N' D' w' v' := by
  intro hv
  obtain ⟨a1, a2, told, a3, a4⟩ := h (by omega)
  have b1 := a3.1.2.2.2.2.2.2
  refine ⟨(e7 _ (by omega) (by omega)).trans a1, fun p p0 p1 => ?_, told, a3.congr hw ea e1 e2 e3 (by omega) e5 (fun i i0 i1 => e7 _ (by omega) (by omega)) (by omega), fun x x0 x1 => ?_⟩
  · rw [e7 _ (by omega) (by omega), e5 _ (by omega) (by omega)]
    exact a2 p p0 (by omega)
  · rw [e6 x (by omega) (by omega)]
    exact a4 x x0 (by omega)
