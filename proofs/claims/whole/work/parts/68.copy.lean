/-! rows copied -/
theorem mMin_self (x : Int32) : mMin x x = x := by
  unfold mMin
  split <;> rfl
/-- the row b takes the first n numbers of the row a -/
def cpr (m : Nat → Int → Int) (a b n : Nat) : Nat → Int → Int := fun c i => if c = b ∧ 0 ≤ i ∧ i < n then m a i else m c i
def cpq (q : Nat → Int → Int64) (a b n : Nat) : Nat → Int → Int64 := fun c i => if c = b ∧ 0 ≤ i ∧ i < n then q a i else q c i
/-- r rows behind b take those behind a -/
def cps (m : Nat → Int → Int) (a b r n : Nat) : Nat → Int → Int := fun c i => if (b < c ∧ c ≤ b + r) ∧ 0 ≤ i ∧ i < n then m (a + (c - b)) i else m c i
theorem in_cpy {n : Nat} (h : n < 2147483648) : ¬ (J 0 < 0 ∨ J 0 < 0 ∨ J n < 0 ∨ n < (J 0).toNatClampNeg + (J n).toNatClampNeg ∨ n < (J 0).toNatClampNeg + (J n).toNatClampNeg) := by
  rw [J_idx (by omega) (by omega), J_idx (by omega) (by omega)]
  rintro (c | c | c | c | c)
  · exact J_nneg (by omega) (by omega) c
  · exact J_nneg (by omega) (by omega) c
  · exact J_nneg (by omega) (by omega) c
  · omega
  · omega
section COPY
variable {S : xH} {m : Nat → Int → Int} {q : Nat → Int → Int64} {a b n : Nat}
theorem cpI_hp (h1 : S.2.2 a = aSh .int n) (h2 : S.2.2 b = aSh .int n) (hn : n < 2147483648) : cpI (hp S m q) a (J 0) b (J 0) (J n) = some (hp S (cpr m a b n) q) := by
  unfold cpI
  rw [hp_cell, hp_cell, h1, h2]
  refine (if_neg (in_cpy hn)).trans ?_
  refine congrArg some ?_
  unfold xput hp
  refine congrArg (Prod.mk _) (congrArg (Prod.mk _) (funext fun j => ?_))
  by_cases e : j = b
  · subst e
    show (if j = j then _ else _) = _
    rw [if_pos rfl, h2]
    show Sum.inl (FieldType.int, n, Sum.inl (va_cpy (fun i : Nat => J (m a i)) (fun i : Nat => J (m j i)) (J 0).toNatClampNeg (J 0).toNatClampNeg (J n).toNatClampNeg)) = Sum.inl (FieldType.int, n, Sum.inl (fun i : Nat => J (cpr m a j n j i)))
    rw [J_idx (by omega) (by omega), J_idx (by omega) (by omega)]
    refine congrArg (fun z => Sum.inl (FieldType.int, n, Sum.inl z)) (funext fun i => ?_)
    unfold va_cpy cpr
    by_cases c : i < n
    · rw [if_pos (by omega), if_pos ⟨rfl, by omega, by omega⟩]
      show J (m a (((0 : Int).toNat + (i - (0 : Int).toNat) : Nat) : Int)) = _
      rw [show (0 : Int).toNat + (i - (0 : Int).toNat) = i by omega]
    · rw [if_neg (by omega), if_neg (by omega)]
  · show (if j = b then _ else _) = _
    rw [if_neg e]
    have : cpr m a b n j = m j := funext fun i => if_neg (fun z => e z.1)
    rw [this]
theorem cpJ_hp (h1 : S.2.2 a = jSh n) (h2 : S.2.2 b = jSh n) (hn : n < 2147483648) : cpJ (hp S m q) a (J 0) b (J 0) (J n) = some (hp S m (cpq q a b n)) := by
  unfold cpJ
  rw [hp_cell, hp_cell, h1, h2]
  refine (if_neg (in_cpy hn)).trans ?_
  refine congrArg some ?_
  unfold xput hp
  refine congrArg (Prod.mk _) (congrArg (Prod.mk _) (funext fun j => ?_))
  by_cases e : j = b
  · subst e
    show (if j = j then _ else _) = _
    rw [if_pos rfl, h2]
    show Sum.inl (FieldType.long, n, Sum.inr (Sum.inl (va_cpy (fun i : Nat => q a i) (fun i : Nat => q j i) (J 0).toNatClampNeg (J 0).toNatClampNeg (J n).toNatClampNeg))) = Sum.inl (FieldType.long, n, Sum.inr (Sum.inl (fun i : Nat => cpq q a j n j i)))
    rw [J_idx (by omega) (by omega), J_idx (by omega) (by omega)]
    refine congrArg (fun z => Sum.inl (FieldType.long, n, Sum.inr (Sum.inl z))) (funext fun i => ?_)
    unfold va_cpy cpq
    by_cases c : i < n
    · rw [if_pos (by omega), if_pos ⟨rfl, by omega, by omega⟩]
      show q a (((0 : Int).toNat + (i - (0 : Int).toNat) : Nat) : Int) = _
      rw [show (0 : Int).toNat + (i - (0 : Int).toNat) = i by omega]
    · rw [if_neg (by omega), if_neg (by omega)]
  · show (if j = b then _ else _) = _
    rw [if_neg e]
    have : cpq q a b n j = q j := funext fun i => if_neg (fun z => e z.1)
    rw [this]
theorem e_copyRow (h1 : S.2.2 a = aSh .int n) (h2 : S.2.2 b = aSh .int n) (hn : n < 2147483648) (k : Nat) : f_X10_copyRow (k + 1) 0 [.ref a, .ref b] (hp S m q) = some (.inl none, hp S (cpr m a b n) q) := by
  rw [j_X10_copyRow_0]
  unfold b_X10_copyRow_0
  rw [aL_hp h1, Option.bind_some, aL_hp h2, Option.bind_some, mMin_self, J_lit 0, cpI_hp h1 h2 hn, Option.bind_some]
theorem q_copyRows_l {r : Nat} (ha : S.2.2 a = mSh r a) (hb : S.2.2 b = mSh r b) (h1 : ∀ i, i < r → S.2.2 (a + 1 + i) = aSh .int n) (h2 : ∀ i, i < r → S.2.2 (b + 1 + i) = aSh .int n) (hr : r < 100) (hn : n < 2147483648) (hd : a + r < b ∨ b + r < a) : ∀ (k i : Nat), i + k = r → De (fun t => f_X10_copyRows t 2 [.ref a, .ref b, .int (J i)] (hp S (cps m a b i n) q)) (.inl none) (hp S (cps m a b r n) q) := by
  intro k
  induction k with
  | zero =>
    intro i hi
    have hi : i = r := by omega
    subst hi
    refine De.cg 3 (g := fun _ => some (.inl none, hp S (cps m a b i n) q)) (fun t => ?_) (De.ret _ _)
    rw [j_X10_copyRows_2]
    unfold b_X10_copyRows_2
    rw [aLM_hp ha, Option.bind_some, if_pos (by rw [J_lec (by omega)]; omega)]
  | succ k IH =>
    intro i hi
    have ih := IH (i + 1) (by omega)
    have e : cpr (cps m a b i n) (a + 1 + i) (b + 1 + i) n = cps m a b (i + 1) n := by
      funext c x
      unfold cpr cps
      by_cases c1 : c = b + 1 + i
      · subst c1
        by_cases c2 : 0 ≤ x ∧ x < (n : Int)
        · rw [if_pos ⟨rfl, c2⟩, if_neg (by omega), if_pos ⟨by omega, c2⟩, show a + (b + 1 + i - b) = a + 1 + i by omega]
        · rw [if_neg (fun z => c2 z.2), if_neg (fun z => c2 z.2), if_neg (fun z => c2 z.2)]
      · rw [if_neg (fun z => c1 z.1)]
        by_cases c2 : (b < c ∧ c ≤ b + i) ∧ 0 ≤ x ∧ x < (n : Int)
        · rw [if_pos c2, if_pos ⟨by omega, c2.2⟩]
        · rw [if_neg c2, if_neg (fun z => c2 ⟨by omega, z.2⟩)]
    rw [← e] at ih
    refine De.cg 3 (fun t => ?_) (ih.sh 2)
    rw [j_X10_copyRows_2]
    unfold b_X10_copyRows_2
    have g1 := h1 i (by omega)
    have g2 := h2 i (by omega)
    rw [aLM_hp ha, Option.bind_some, if_neg (by rw [J_lec (by omega)]; omega), aLM_hp hb, Option.bind_some, if_neg (by rw [J_lec (by omega)]; omega), aA_hp ha (by omega) (by omega) (by omega), Option.bind_some, aA_hp hb (by omega) (by omega) (by omega), Option.bind_some, Int.toNat_natCast, e_copyRow g1 g2 hn, Option.bind_some]
    rw [xU, J_lit 1, J_add]
    rfl
theorem q_copyRows {r : Nat} (ha : S.2.2 a = mSh r a) (hb : S.2.2 b = mSh r b) (h1 : ∀ i, i < r → S.2.2 (a + 1 + i) = aSh .int n) (h2 : ∀ i, i < r → S.2.2 (b + 1 + i) = aSh .int n) (hr : r < 100) (hn : n < 2147483648) (hd : a + r < b ∨ b + r < a) : De (fun t => f_X10_copyRows t 0 [.ref a, .ref b] (hp S m q)) (.inl none) (hp S (cps m a b r n) q) := by
  have z := q_copyRows_l (m := m) (q := q) ha hb h1 h2 hr hn hd r 0 (by omega)
  have e : cps m a b 0 n = m := by
    funext c x
    unfold cps
    rw [if_neg (by omega)]
  rw [e] at z
  refine De.step ?_
  simp only [j_X10_copyRows_0, b_X10_copyRows_0, J_lit]
  exact z
end COPY
