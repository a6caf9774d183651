/-! THE MEMORY AS NUMBERS: a heap is a skeleton (its shapes), and a number for each place -/
def J (z : Int) : Int32 := Int32.ofInt z
theorem J_toInt (x : Int32) : J x.toInt = x := Int32.ofInt_toInt x
theorem toInt_J {z : Int} (h1 : -2147483648 ≤ z) (h2 : z < 2147483648) : (J z).toInt = z := Int32.toInt_ofInt_of_le (by omega) (by omega)
theorem J_of (x : Int32) : ∃ z, x = J z ∧ -2147483648 ≤ z ∧ z < 2147483648 :=
  ⟨x.toInt, (J_toInt x).symm, by have := x.minValue_le_toInt; have e : Int32.minValue.toInt = -2147483648 := rfl; omega, by have := x.toInt_le; have e : Int32.maxValue.toInt = 2147483647 := rfl; omega⟩
theorem J_lit (n : Nat) : (@OfNat.ofNat Int32 n _) = J (@OfNat.ofNat Int n _) := (Int32.ofInt_eq_ofNat (n := n)).symm
theorem J_add (a b : Int) : J a + J b = J (a + b) := (Int32.ofInt_add a b).symm
theorem J_sub (a b : Int) : J a - J b = J (a - b) := (Int32.ofInt_sub a b).symm
theorem J_mul (a b : Int) : J a * J b = J (a * b) := (Int32.ofInt_mul a b).symm
theorem J_neg (a : Int) : - J a = J (-a) := (Int32.ofInt_neg a).symm
theorem J_lt {a b : Int} (h1 : -2147483648 ≤ a) (h2 : a < 2147483648) (h3 : -2147483648 ≤ b) (h4 : b < 2147483648) : (J a < J b) = (a < b) := by
  rw [Int32.lt_iff_toInt_lt, toInt_J h1 h2, toInt_J h3 h4]
theorem J_le {a b : Int} (h1 : -2147483648 ≤ a) (h2 : a < 2147483648) (h3 : -2147483648 ≤ b) (h4 : b < 2147483648) : (J a ≤ J b) = (a ≤ b) := by
  rw [Int32.le_iff_toInt_le, toInt_J h1 h2, toInt_J h3 h4]
theorem J_eq {a b : Int} (h1 : -2147483648 ≤ a) (h2 : a < 2147483648) (h3 : -2147483648 ≤ b) (h4 : b < 2147483648) : (J a = J b) = (a = b) := by
  apply propext
  constructor
  · intro h
    have := congrArg Int32.toInt h
    rwa [toInt_J h1 h2, toInt_J h3 h4] at this
  · intro h
    rw [h]
theorem J_idx {i : Int} (h0 : 0 ≤ i) (h1 : i < 2147483648) : (J i).toNatClampNeg = i.toNat := by
  show (J i).toInt.toNat = _
  rw [toInt_J (by omega) h1]
theorem J_nneg {i : Int} (h0 : 0 ≤ i) (h1 : i < 2147483648) : ¬ J i < 0 := by
  rw [J_lit, J_lt (by omega) h1 (by omega) (by omega)]
  omega
theorem J_div {a b : Int} (h1 : 0 ≤ a) (h2 : a < 2147483648) (h3 : 0 < b) (h4 : b < 2147483648) : J a / J b = J (a / b) := by
  have e := Int32.ofInt_tdiv (a := a) (b := b) (by have e : Int32.minValue.toInt = -2147483648 := rfl; omega) (by have e : Int32.maxValue.toInt = 2147483647 := rfl; omega) (by have e : Int32.minValue.toInt = -2147483648 := rfl; omega) (by have e : Int32.maxValue.toInt = 2147483647 := rfl; omega)
  rw [Int.tdiv_eq_ediv_of_nonneg h1] at e
  exact e.symm
theorem J_min {a b : Int} (h1 : -2147483648 ≤ a) (h2 : a < 2147483648) (h3 : -2147483648 ≤ b) (h4 : b < 2147483648) : mMin (J a) (J b) = J (min a b) := by
  unfold mMin
  have e := J_lt h3 h4 h1 h2
  by_cases c : b < a
  · rw [if_pos (by rw [e]; exact c), show min a b = b by omega]
  · rw [if_neg (by rw [e]; exact c), show min a b = a by omega]
theorem J_max {a b : Int} (h1 : -2147483648 ≤ a) (h2 : a < 2147483648) (h3 : -2147483648 ≤ b) (h4 : b < 2147483648) : mMax (J a) (J b) = J (max a b) := by
  unfold mMax
  have e := J_lt h1 h2 h3 h4
  by_cases c : a < b
  · rw [if_pos (by rw [e]; exact c), show max a b = b by omega]
  · rw [if_neg (by rw [e]; exact c), show max a b = a by omega]
theorem J_abs {a : Int} (h1 : -2147483648 < a) (h2 : a < 2147483648) : mAbs (J a) = J (a.natAbs : Int) := by
  unfold mAbs
  have e := J_le (a := 0) (b := a) (by omega) (by omega) (by omega) h2
  by_cases c : 0 ≤ a
  · rw [J_lit, if_pos (by rw [e]; exact c), show (a.natAbs : Int) = a by omega]
  · rw [J_lit, if_neg (by rw [e]; exact c), J_sub, show (a.natAbs : Int) = 0 - a by omega]
theorem J_toInt64 {a : Int} (h1 : -2147483648 ≤ a) (h2 : a < 2147483648) : Int32.toInt64 (J a) = Int64.ofInt a := Int32.toInt64_ofInt (by have e : Int32.minValue.toInt = -2147483648 := rfl; omega) (by have e : Int32.maxValue.toInt = 2147483647 := rfl; omega)
/-! heaps -/
def fil1 (x : Int) : Value → Value
  | .int _ => .int (J x)
  | v => v
def fillv (f : Int → Int) : Nat → List Value → List Value
  | _, [] => []
  | k, v :: vs => fil1 (f k) v :: fillv f (k + 1) vs
def mkc (f : Int → Int) (g : Int → Int64) : xC → xC
  | .inl (t, n, .inl _) => .inl (t, n, .inl (fun i => J (f i)))
  | .inl (t, n, .inr (.inl _)) => .inl (t, n, .inr (.inl (fun i => g i)))
  | .inl (t, n, .inr (.inr h)) => .inl (t, n, .inr (.inr h))
  | .inr (c, fs) => .inr (c, fillv f 0 fs)
def hp (S : xH) (m : Nat → Int → Int) (q : Nat → Int → Int64) : xH := (S.1, S.2.1, fun a => mkc (m a) (q a) (S.2.2 a))
def up (m : Nat → Int → Int) (a : Nat) (i x : Int) : Nat → Int → Int := fun b j => if b = a ∧ j = i then x else m b j
def uq (q : Nat → Int → Int64) (a : Nat) (i : Int) (x : Int64) : Nat → Int → Int64 := fun b j => if b = a ∧ j = i then x else q b j
theorem up_at (m : Nat → Int → Int) (a : Nat) (i x : Int) : up m a i x a i = x := if_pos ⟨rfl, rfl⟩
theorem up_a {m : Nat → Int → Int} {a b : Nat} {i j x : Int} (h : b ≠ a) : up m a i x b j = m b j := if_neg (fun q => h q.1)
theorem up_i {m : Nat → Int → Int} {a b : Nat} {i j x : Int} (h : j ≠ i) : up m a i x b j = m b j := if_neg (fun q => h q.2)
theorem up_row {m : Nat → Int → Int} {a b : Nat} {i x : Int} (h : b ≠ a) : up m a i x b = m b := funext fun j => if_neg (fun q => h q.1)
theorem up_get (m : Nat → Int → Int) (a b : Nat) (i j x : Int) : up m a i x b j = if b = a ∧ j = i then x else m b j := rfl
theorem uq_at (m : Nat → Int → Int64) (a : Nat) (i : Int) (x : Int64) : uq m a i x a i = x := if_pos ⟨rfl, rfl⟩
theorem uq_get (m : Nat → Int → Int64) (a b : Nat) (i j : Int) (x : Int64) : uq m a i x b j = if b = a ∧ j = i then x else m b j := rfl
theorem uq_row {m : Nat → Int → Int64} {a b : Nat} {i : Int} {x : Int64} (h : b ≠ a) : uq m a i x b = m b := funext fun j => if_neg (fun q => h q.1)
theorem fillv_get (f : Int → Int) : ∀ (fs : List Value) (j k : Nat), (fillv f j fs)[k]? = (fs[k]?).map (fil1 (f ((j + k : Nat) : Int)))
  | [], j, k => by simp [fillv]
  | v :: vs, j, 0 => by simp [fillv]
  | v :: vs, j, k + 1 => by
    rw [fillv, List.getElem?_cons_succ, List.getElem?_cons_succ, fillv_get f vs (j + 1) k, show j + 1 + k = j + (k + 1) by omega]
theorem fillv_len (f : Int → Int) : ∀ (fs : List Value) (j : Nat), (fillv f j fs).length = fs.length
  | [], j => rfl
  | v :: vs, j => by rw [fillv, List.length_cons, List.length_cons, fillv_len f vs (j + 1)]
theorem hp_cell (S : xH) (m : Nat → Int → Int) (q : Nat → Int → Int64) (a : Nat) : (hp S m q).2.2 a = mkc (m a) (q a) (S.2.2 a) := rfl
section HP
variable {S : xH} {m : Nat → Int → Int} {q : Nat → Int → Int64} {o a b ci k n r : Nat} {i x : Int} {fs : List Value} {t : FieldType}
theorem rI_hp (h : S.2.2 o = .inr (ci, fs)) (hk : fs[k]? = some (.int 0)) : rI (hp S m q) o ci k = some (J (m o k)) := by
  unfold rI
  rw [hp_cell, h]
  show (if ci = ci then (match (fillv (m o) 0 fs)[k]? with | some (.int x) => some x | _ => none) else none) = _
  rw [if_pos rfl, fillv_get, hk]
  simp only [Option.map_some, Nat.zero_add, fil1]
theorem rA_hp (h : S.2.2 o = .inr (ci, fs)) (hk : fs[k]? = some (.ref r)) : rA (hp S m q) o ci k = some r := by
  unfold rA
  rw [hp_cell, h]
  show (if ci = ci then (match (fillv (m o) 0 fs)[k]? with | some (.ref x) => some x | _ => none) else none) = _
  rw [if_pos rfl, fillv_get, hk]
  rfl
theorem kO_hp (h : S.2.2 o = .inr (ci, fs)) : kO (hp S m q) o ci = some () := by
  unfold kO
  rw [hp_cell, h]
  exact if_pos rfl
theorem aL_hp (h : S.2.2 a = aSh .int n) : aL (hp S m q) a = some (J n) := by
  unfold aL
  rw [hp_cell, h]
  exact congrArg some (Int32.ofInt_eq_ofNat (n := n)).symm
theorem aLB_hp (h : S.2.2 a = aSh .byte n) : aL (hp S m q) a = some (J n) := by
  unfold aL
  rw [hp_cell, h]
  exact congrArg some (Int32.ofInt_eq_ofNat (n := n)).symm
theorem aLJ_hp (h : S.2.2 a = jSh n) : aL (hp S m q) a = some (J n) := by
  unfold aL
  rw [hp_cell, h]
  exact congrArg some (Int32.ofInt_eq_ofNat (n := n)).symm
theorem aLM_hp (h : S.2.2 a = mSh n b) : aL (hp S m q) a = some (J n) := by
  unfold aL
  rw [hp_cell, h]
  exact congrArg some (Int32.ofInt_eq_ofNat (n := n)).symm
theorem in_hp (h0 : 0 ≤ i) (hn : i < n) (h2 : n < 2147483648) : ¬ (J i < 0 ∨ n ≤ (J i).toNatClampNeg) := by
  rintro (c | c)
  · exact J_nneg h0 (by omega) c
  · rw [J_idx h0 (by omega)] at c
    omega
theorem aI_hp (h : S.2.2 a = aSh .int n) (h2 : n < 2147483648) (h0 : 0 ≤ i) (hn : i < n) : aI (hp S m q) a (J i) = some (J (m a i)) := by
  unfold aI
  rw [hp_cell, h]
  refine (if_neg (in_hp h0 hn h2)).trans ?_
  rw [J_idx h0 (by omega)]
  simp only [Int.toNat_of_nonneg h0]
theorem aB_hp (h : S.2.2 a = aSh .byte n) (h2 : n < 2147483648) (h0 : 0 ≤ i) (hn : i < n) : aB (hp S m q) a (J i) = some (J (m a i)) := by
  unfold aB
  rw [hp_cell, h]
  refine (if_neg (in_hp h0 hn h2)).trans ?_
  rw [J_idx h0 (by omega)]
  simp only [Int.toNat_of_nonneg h0]
theorem aZ_hp (h : S.2.2 a = aSh .boolean n) (h2 : n < 2147483648) (h0 : 0 ≤ i) (hn : i < n) : aZ (hp S m q) a (J i) = some (J (m a i)) := by
  unfold aZ
  rw [hp_cell, h]
  refine (if_neg (in_hp h0 hn h2)).trans ?_
  rw [J_idx h0 (by omega)]
  simp only [Int.toNat_of_nonneg h0]
theorem aJ_hp (h : S.2.2 a = jSh n) (h2 : n < 2147483648) (h0 : 0 ≤ i) (hn : i < n) : aJ (hp S m q) a (J i) = some (q a i) := by
  unfold aJ
  rw [hp_cell, h]
  refine (if_neg (in_hp h0 hn h2)).trans ?_
  rw [J_idx h0 (by omega)]
  simp only [Int.toNat_of_nonneg h0]
theorem aA_hp (h : S.2.2 a = mSh n b) (h2 : n < 2147483648) (h0 : 0 ≤ i) (hn : i < n) : aA (hp S m q) a (J i) = some (b + 1 + i.toNat) := by
  unfold aA
  rw [hp_cell, h]
  refine (if_neg (in_hp h0 hn h2)).trans ?_
  rw [J_idx h0 (by omega)]
  exact if_pos (by omega)
/-! writes -/
theorem up_self (f : Int → Int) (i x : Int) (h0 : 0 ≤ i) : (fun j : Nat => J (if (j : Int) = i then x else f j)) = upd (fun j : Nat => J (f j)) i.toNat (J x) := by
  funext j
  unfold upd
  by_cases e : j = i.toNat
  · rw [if_pos (by omega), if_pos e]
  · rw [if_neg (by omega), if_neg e]
theorem hp_upA (h : S.2.2 a = aSh t n) (h0 : 0 ≤ i) : xput (hp S m q) a (.inl (t, n, .inl (upd (fun j : Nat => J (m a j)) i.toNat (J x)))) = hp S (up m a i x) q := by
  unfold xput hp
  refine congrArg (Prod.mk _) (congrArg (Prod.mk _) (funext fun j => ?_))
  by_cases e : j = a
  · subst e
    show (if j = j then _ else _) = _
    rw [if_pos rfl, h]
    show _ = Sum.inl (t, n, Sum.inl (fun i_1 : Nat => J (up m j i x j i_1)))
    rw [← up_self (m j) i x h0]
    simp only [up, true_and]
  · show (if j = a then _ else _) = _
    rw [if_neg e, up_row e]
theorem sI_hp (h : S.2.2 a = aSh .int n) (h2 : n < 2147483648) (h0 : 0 ≤ i) (hn : i < n) : sI (hp S m q) a (J i) (J x) = some (hp S (up m a i x) q) := by
  unfold sI
  rw [hp_cell, h]
  refine (if_neg (in_hp h0 hn h2)).trans ?_
  rw [J_idx h0 (by omega)]
  exact congrArg some (hp_upA h h0)
theorem sZ_hp (h : S.2.2 a = aSh .boolean n) (h2 : n < 2147483648) (h0 : 0 ≤ i) (hn : i < n) (hx : x = 0 ∨ x = 1) : sZ (hp S m q) a (J i) (J x) = some (hp S (up m a i x) q) := by
  unfold sZ
  rw [hp_cell, h]
  refine (if_neg (in_hp h0 hn h2)).trans ?_
  rw [J_idx h0 (by omega), show vp_nar .boolean (J x) = J x by rcases hx with rfl | rfl <;> rfl]
  exact congrArg some (hp_upA h h0)
/-- a byte out of an int -/
def b8 (x : Int) : Int := x.bmod 256
theorem nar_byte (x : Int) : vp_nar .byte (J x) = J (b8 x) := by
  show (J x).toInt8.toInt32 = _
  apply Int32.toInt_inj.mp
  have hb : -128 ≤ b8 x ∧ b8 x < 128 := ⟨Int.le_bmod (by decide), Int.bmod_lt (by decide)⟩
  rw [toInt_J (by omega) (by omega), Int8.toInt_toInt32]
  show (Int32.toInt8 (Int32.ofInt x)).toInt = _
  rw [Int32.toInt8_ofInt, Int8.toInt_ofInt]
  rfl
theorem sB_hp (h : S.2.2 a = aSh .byte n) (h2 : n < 2147483648) (h0 : 0 ≤ i) (hn : i < n) : sB (hp S m q) a (J i) (J x) = some (hp S (up m a i (b8 x)) q) := by
  unfold sB
  rw [hp_cell, h]
  refine (if_neg (in_hp h0 hn h2)).trans ?_
  rw [J_idx h0 (by omega), nar_byte]
  exact congrArg some (hp_upA h h0)
theorem sJ_hp {y : Int64} (h : S.2.2 a = jSh n) (h2 : n < 2147483648) (h0 : 0 ≤ i) (hn : i < n) : sJ (hp S m q) a (J i) y = some (hp S m (uq q a i y)) := by
  unfold sJ
  rw [hp_cell, h]
  refine (if_neg (in_hp h0 hn h2)).trans ?_
  rw [J_idx h0 (by omega)]
  refine congrArg some ?_
  unfold xput hp
  refine congrArg (Prod.mk _) (congrArg (Prod.mk _) (funext fun j => ?_))
  by_cases e : j = a
  · subst e
    show (if j = j then _ else _) = _
    rw [if_pos rfl, h]
    show Sum.inl (FieldType.long, n, Sum.inr (Sum.inl (vp_updL (fun k : Nat => q j k) i.toNat y))) = Sum.inl (FieldType.long, n, Sum.inr (Sum.inl (fun k : Nat => uq q j i y j k)))
    congr 5
    funext k
    unfold vp_updL uq
    by_cases e : k = i.toNat
    · rw [if_pos e, if_pos ⟨rfl, by omega⟩]
    · rw [if_neg e, if_neg (fun q => e (by omega))]
  · show (if j = a then _ else _) = _
    rw [if_neg e, uq_row e]
theorem wV_hp (h : S.2.2 o = .inr (ci, fs)) (hk : fs[k]? = some (.int 0)) : wV (hp S m q) o ci k (.int (J x)) = some (hp S (up m o k x) q) := by
  unfold wV
  rw [hp_cell, h]
  show (if ci = ci ∧ k < (fillv (m o) 0 fs).length then some (xput (hp S m q) o (.inr (ci, (fillv (m o) 0 fs).set k (.int (J x))))) else none) = _
  have hlt := (List.getElem?_eq_some_iff.mp hk).1
  rw [if_pos ⟨rfl, by rw [fillv_len]; exact hlt⟩]
  refine congrArg some ?_
  unfold xput hp
  refine congrArg (Prod.mk _) (congrArg (Prod.mk _) (funext fun j => ?_))
  by_cases e : j = o
  · subst e
    show (if j = j then _ else _) = _
    rw [if_pos rfl, h]
    show Sum.inr (ci, (fillv (m j) 0 fs).set k (.int (J x))) = Sum.inr (ci, fillv (up m j k x j) 0 fs)
    refine congrArg (fun z => Sum.inr (ci, z)) (List.ext_getElem? fun p => ?_)
    rw [List.getElem?_set, fillv_get, fillv_get, fillv_len]
    by_cases e2 : k = p
    · subst e2
      rw [if_pos rfl, if_pos hlt, hk]
      simp only [Option.map_some, Nat.zero_add, up_at, fil1]
    · rw [if_neg e2]
      cases hp' : fs[p]? with
      | none => rfl
      | some v =>
        simp only [Option.map_some, Nat.zero_add]
        rw [up_i (show ((p : Nat) : Int) ≠ (k : Int) by omega)]
  · show (if j = o then _ else _) = _
    rw [if_neg e, up_row e]
end HP
theorem tE_hp (S : xH) (m : Nat → Int → Int) (q : Nat → Int → Int64) (k : Nat) (h1 : S.1 + 1 ≤ 601024) (h2 : S.2.1 + 6 ≤ 7293034) : tE (hp S m q) k = some (.inr S.1, hp (xth S k) m q) := by
  unfold tE
  rw [if_pos ⟨h1, h2⟩]
  refine congrArg some (congrArg (Prod.mk _) ?_)
  unfold xth xnew hp
  refine congrArg (Prod.mk _) (congrArg (Prod.mk _) (funext fun j => ?_))
  show (if j = S.1 then _ else _) = mkc (m j) (q j) (if j = S.1 then _ else _)
  by_cases e : j = S.1
  · rw [if_pos e, if_pos e]
    rfl
  · rw [if_neg e, if_neg e]
/-! with fuel enough -/
def De (X : Nat → xO) (r : xR) (P : xH) : Prop := ∃ n0, ∀ n, n0 ≤ n → X n = some (r, P)
def Dq (X : Nat → xO) (Q : xR → xH → Prop) : Prop := ∃ r P, De X r P ∧ Q r P
theorem De.ret (r : xR) (P : xH) : De (fun _ => some (r, P)) r P := ⟨0, fun _ _ => rfl⟩
theorem De.step {f : Nat → xO} {r : xR} {P : xH} (h : De (fun n => f (n + 1)) r P) : De f r P := by
  obtain ⟨n0, h⟩ := h
  refine ⟨n0 + 1, fun n hn => ?_⟩
  obtain ⟨k, rfl⟩ : ∃ k, n = k + 1 := ⟨n - 1, by omega⟩
  exact h k (by omega)
theorem De.call {X : Nat → xO} {K : Nat → xR × xH → xO} {r r' : xR} {P P' : xH} (h1 : De X r' P') (h2 : De (fun n => K n (r', P')) r P) : De (fun n => (X n).bind (K n)) r P := by
  obtain ⟨n1, h1⟩ := h1
  obtain ⟨n2, h2⟩ := h2
  refine ⟨n1 + n2, fun n hn => ?_⟩
  show (X n).bind (K n) = _
  rw [h1 n (by omega), Option.bind_some]
  exact h2 n (by omega)
theorem Dq.of {X : Nat → xO} {r : xR} {P : xH} {Q : xR → xH → Prop} (h : De X r P) (hQ : Q r P) : Dq X Q := ⟨r, P, h, hQ⟩
theorem Dq.ret {r : xR} {P : xH} {Q : xR → xH → Prop} (hQ : Q r P) : Dq (fun _ => some (r, P)) Q := ⟨r, P, De.ret r P, hQ⟩
theorem Dq.step {f : Nat → xO} {Q : xR → xH → Prop} (h : Dq (fun n => f (n + 1)) Q) : Dq f Q := by
  obtain ⟨r, P, h, hQ⟩ := h
  exact ⟨r, P, h.step, hQ⟩
theorem Dq.callE {X : Nat → xO} {K : Nat → xR × xH → xO} {r' : xR} {P' : xH} {Q : xR → xH → Prop} (h1 : De X r' P') (h2 : Dq (fun n => K n (r', P')) Q) : Dq (fun n => (X n).bind (K n)) Q := by
  obtain ⟨r, P, h2, hQ⟩ := h2
  exact ⟨r, P, h1.call h2, hQ⟩
theorem Dq.call {X : Nat → xO} {K : Nat → xR × xH → xO} {R Q : xR → xH → Prop} (h1 : Dq X R) (h2 : ∀ r P, R r P → Dq (fun n => K n (r, P)) Q) : Dq (fun n => (X n).bind (K n)) Q := by
  obtain ⟨r, P, h1, hR⟩ := h1
  exact Dq.callE h1 (h2 r P hR)
theorem Dq.imp {X : Nat → xO} {R Q : xR → xH → Prop} (h1 : Dq X R) (h2 : ∀ r P, R r P → Q r P) : Dq X Q := by
  obtain ⟨r, P, h1, hR⟩ := h1
  exact ⟨r, P, h1, h2 r P hR⟩
theorem Dq.ite {c : Prop} [Decidable c] {X Y : Nat → xO} {Q : xR → xH → Prop} (h1 : c → Dq X Q) (h2 : ¬ c → Dq Y Q) : Dq (fun n => if c then X n else Y n) Q := by
  by_cases h : c
  · simp only [if_pos h]
    exact h1 h
  · simp only [if_neg h]
    exact h2 h
theorem De.ite {c : Prop} [Decidable c] {X Y : Nat → xO} {r : xR} {P : xH} (h1 : c → De X r P) (h2 : ¬ c → De Y r P) : De (fun n => if c then X n else Y n) r P := by
  by_cases h : c
  · simp only [if_pos h]
    exact h1 h
  · simp only [if_neg h]
    exact h2 h
