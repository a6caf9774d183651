/-! PURE HEAPS. All cells that a run makes lie one behind another from the heap's size at the law's entry on (the base): the cell with the pure number i has the address base + i. A pure value is a Value whose references are such numbers; .retAddr k stands for the k-th thing that was there before (0: the script; k + 1: the k-th text). -/
abbrev xA : Type := Nat × ((Nat → Int32) ⊕ (Nat → Int64) ⊕ (Nat → Option Nat))
abbrev xC : Type := (FieldType × xA) ⊕ (Nat × List Value)
abbrev xH : Type := Nat × Nat × (Nat → xC)
abbrev xG : Type := Nat × va_G × (FieldType → ClassId) × (Nat → Nat) × Nat × (Nat → Int32)
abbrev xL : Type := List (Option Value)
abbrev xR : Type := (Option Value) ⊕ Nat
def xv (G : xG) : Value → Value
  | .ref i => .ref (G.1 + i)
  | .retAddr k => .ref (G.2.2.2.1 k)
  | v => v
theorem xv_int (G : xG) (x : Int32) : xv G (.int x) = .int x := rfl
theorem xv_long (G : xG) (x : Int64) : xv G (.long x) = .long x := rfl
theorem xv_null (G : xG) : xv G .null = .null := rfl
theorem xv_ref (G : xG) (i : Nat) : xv G (.ref i) = .ref (G.1 + i) := rfl
theorem xv_cat (G : xG) (v : Value) : (xv G v).category = v.category := by cases v <;> rfl
def xarr (G : xG) (ty : FieldType) (a : xA) : Cell := match a.2 with
  | .inl f => arrV (G.2.2.1 ty) a.1 (fun j => .int (f j))
  | .inr (.inl f) => arrV (G.2.2.1 ty) a.1 (fun j => .long (f j))
  | .inr (.inr f) => arrV (G.2.2.1 ty) a.1 (fun j => va_rf ((f j).map (fun i => G.1 + i)))
def xat (G : xG) (q : Nat) (c : xC) (H : Heap) : Prop := match c with
  | .inl o => H[q]? = some (xarr G o.1 o.2)
  | .inr o => t_OB q (G.2.1.1 o.1) (xN o.1) (G.2.1.2 o.1) H (vp_V (o.2.map (xv G)))
theorem xat.kept {G : xG} {q : Nat} {c : xC} {H H1 : Heap} (h : xat G q c H) (hq : H1[q]? = H[q]?) : xat G q c H1 := by
  cases c with
  | inl o => exact hq.trans h
  | inr o => exact t_OB.kept h hq
def xRel (G : xG) (P : xH) (H : Heap) : Prop := H.size = G.1 + P.1 ∧ (∀ i, i < P.1 → xat G (G.1 + i) (P.2.2 i) H) ∧ (∀ i, P.1 ≤ i → P.2.2 i = .inr (99, [])) ∧ P.1 ≤ 601024 ∧ P.2.1 ≤ 7293034
theorem xRel.lt {G : xG} {P : xH} {H : Heap} (h : xRel G P H) {i : Nat} (hi : P.2.2 i ≠ .inr (99, [])) : i < P.1 := Nat.not_le.mp fun q => hi (h.2.2.1 i q)
theorem xRel.at {G : xG} {P : xH} {H : Heap} (h : xRel G P H) {i : Nat} {c : xC} (hi : P.2.2 i = c) (hc : c ≠ .inr (99, [])) : xat G (G.1 + i) c H := hi ▸ h.2.1 i (h.lt (by rw [hi]; exact hc))
def xput (P : xH) (i : Nat) (c : xC) : xH := (P.1, P.2.1, fun j => if j = i then c else P.2.2 j)
def xnew (P : xH) (n : Nat) (c : xC) : xH := (P.1 + 1, P.2.1 + n, fun j => if j = P.1 then c else P.2.2 j)
theorem xput_at (P : xH) (i : Nat) (c : xC) : (xput P i c).2.2 i = c := by simp [xput]
theorem xput_ne (P : xH) {i j : Nat} (c : xC) (h : j ≠ i) : (xput P i c).2.2 j = P.2.2 j := by simp [xput, h]
theorem xnew_at (P : xH) (n : Nat) (c : xC) : (xnew P n c).2.2 P.1 = c := by simp [xnew]
theorem xnew_ne (P : xH) {j : Nat} (n : Nat) (c : xC) (h : j ≠ P.1) : (xnew P n c).2.2 j = P.2.2 j := by simp [xnew, h]
/-- one cell has changed -/
theorem xRel.put {G : xG} {P : xH} {H H1 : Heap} {i : Nat} {c : xC} (h : xRel G P H) (hi : i < P.1) (z : H1.size = H.size) (o : ∀ q, q ≠ G.1 + i → H1[q]? = H[q]?) (hc : xat G (G.1 + i) c H1) : xRel G (xput P i c) H1 := by
  refine ⟨z.trans h.1, fun j hj => ?_, fun j hj => ?_, h.2.2.2⟩
  · by_cases e : j = i
    · subst e
      rw [xput_at]; exact hc
    · rw [xput_ne P c e]
      exact (h.2.1 j hj).kept (o _ (by omega))
  · have hj : P.1 ≤ j := hj
    rw [xput_ne P c (by omega)]
    exact h.2.2.1 j hj
/-- one cell is new -/
theorem xRel.new {G : xG} {P : xH} {H H1 : Heap} {n : Nat} {c : xC} (h : xRel G P H) (hm : P.1 + 1 ≤ 601024) (hs : P.2.1 + n ≤ 7293034) (z : H1.size = H.size + 1) (o : ∀ q, q < H.size → H1[q]? = H[q]?) (hc : xat G (G.1 + P.1) c H1) : xRel G (xnew P n c) H1 := by
  refine ⟨by rw [z, h.1]; exact Nat.add_assoc _ _ _, fun j hj => ?_, fun j hj => ?_, hm, hs⟩
  · have hj : j < P.1 + 1 := hj
    by_cases e : j = P.1
    · subst e
      rw [xnew_at]; exact hc
    · rw [xnew_ne P n c e]
      exact (h.2.1 j (by omega)).kept (o _ (by rw [h.1]; omega))
  · have hj : P.1 + 1 ≤ j := hj
    rw [xnew_ne P n c (by omega)]
    exact h.2.2.1 j (by omega)
/-! locals -/
def xlr (G : xG) (ls : Array Slot) (L : xL) : Prop := ls.size = L.length ∧ lv_wf ls ∧ ∀ (i : Nat) (v : Value), L[i]? = some (some v) → ls[i]? = some (.val (xv G v))
def xll (G : xG) : Nat → xL → List (Nat × Value)
  | _, [] => []
  | i, none :: r => xll G (i + 1) r
  | i, some v :: r => (i, xv G v) :: xll G (i + 1) r
theorem xll_mem {G : xG} : ∀ (L : xL) (b : Nat) (q : Nat × Value), q ∈ xll G b L ↔ ∃ (i : Nat) (v : Value), L[i]? = some (some v) ∧ q = (b + i, xv G v)
  | [], b, q => by simp [xll]
  | none :: r, b, q => by
    simp only [xll, xll_mem r (b + 1) q]
    constructor
    · rintro ⟨i, v, h, rfl⟩
      exact ⟨i + 1, v, by simpa using h, by simp; omega⟩
    · rintro ⟨i, v, h, rfl⟩
      cases i with
      | zero => simp at h
      | succ i => exact ⟨i, v, by simpa using h, by simp; omega⟩
  | some w :: r, b, q => by
    simp only [xll, List.mem_cons, xll_mem r (b + 1) q]
    constructor
    · rintro (rfl | ⟨i, v, h, rfl⟩)
      · exact ⟨0, w, by simp, by simp⟩
      · exact ⟨i + 1, v, by simpa using h, by simp; omega⟩
    · rintro ⟨i, v, h, rfl⟩
      cases i with
      | zero => left; simp at h; subst h; simp
      | succ i => exact Or.inr ⟨i, v, by simpa using h, by simp; omega⟩
theorem xlr.has {G : xG} {ls : Array Slot} {L : xL} (h : xlr G ls L) : lv_has ls L.length (xll G 0 L) := by
  refine ⟨h.1, h.2.1, fun q hq => ?_⟩
  obtain ⟨i, v, h1, rfl⟩ := (xll_mem L 0 q).mp hq
  simpa using h.2.2 i v h1
/-- a store of one slot -/
def xst1 (L : xL) (i : Nat) (v : Value) : xL := match i with
  | 0 => L.set 0 (some v)
  | j + 1 => match L[j]? with
    | some (some (.long _)) => (L.set j none).set (j + 1) (some v)
    | some (some (.double _)) => (L.set j none).set (j + 1) (some v)
    | _ => L.set (j + 1) (some v)
def xst2 (L : xL) (i : Nat) (v : Value) : xL := (xst1 L i v).set (i + 1) none
theorem xst1_len (L : xL) (i : Nat) (v : Value) : (xst1 L i v).length = L.length := by
  unfold xst1
  cases i with
  | zero => simp
  | succ j => dsimp only; split <;> simp
theorem xst1_get {L : xL} {i j : Nat} {v w : Value} (h : (xst1 L i v)[j]? = some (some w)) : (j = i ∧ w = v) ∨ (j ≠ i ∧ L[j]? = some (some w) ∧ ¬ (j + 1 = i ∧ w.category = 2)) := by
  unfold xst1 at h
  cases i with
  | zero =>
    by_cases e : j = 0
    · subst e
      left
      cases L <;> simp_all
    · right
      refine ⟨e, ?_, by omega⟩
      simpa [List.getElem?_set, Ne.symm e] using h
  | succ k =>
    dsimp only at h
    by_cases e : j = k + 1
    · subst e
      left
      refine ⟨rfl, ?_⟩
      split at h <;> (simp only [List.getElem?_set, if_true] at h; split at h <;> simp_all)
    · right
      refine ⟨e, ?_⟩
      split at h
      all_goals
        simp only [List.getElem?_set, if_neg (Ne.symm e)] at h
      · by_cases e2 : k = j
        · subst e2
          rw [if_pos rfl] at h
          split at h <;> simp_all
        · rw [if_neg e2] at h
          exact ⟨h, by omega⟩
      · by_cases e2 : k = j
        · subst e2
          rw [if_pos rfl] at h
          split at h <;> simp_all
        · rw [if_neg e2] at h
          exact ⟨h, by omega⟩
      · rename_i n1 n2
        refine ⟨h, ?_⟩
        rintro ⟨e3, hc⟩
        have e3 : j = k := by omega
        subst e3
        cases w with
        | long z => exact n1 z h
        | double z => exact n2 z h
        | _ => simp [Value.category] at hc
theorem xlr.st1 {G : xG} {ls : Array Slot} {L : xL} {i : Nat} {v : Value} (h : xlr G ls L) (hi : i < L.length) (hc : v.category = 1) : ∃ ls', storeLocals ls i (xv G v) = some ls' ∧ xlr G ls' (xst1 L i v) := by
  obtain ⟨ls', e, h'⟩ := lv_store1 (v := xv G v) h.has hi (by rw [xv_cat]; exact hc)
  refine ⟨ls', e, ⟨by rw [xst1_len]; exact h'.1, h'.2.1, fun j w hw => ?_⟩⟩
  rcases xst1_get hw with ⟨rfl, rfl⟩ | ⟨h1, h2, h3⟩
  · exact h'.2.2 (_, _) List.mem_cons_self
  · refine h'.2.2 (j, xv G w) (List.mem_cons_of_mem _ (List.mem_filter.mpr ⟨(xll_mem L 0 _).mpr ⟨j, w, h2, by simp⟩, ?_⟩))
    have h4 : ¬ (j + 1 = i ∧ (xv G w).category = 2) := by rw [xv_cat]; exact h3
    simp [h1]
    exact Classical.not_and_iff_not_or_not.mp h4
theorem xlr.st2 {G : xG} {ls : Array Slot} {L : xL} {i : Nat} {v : Value} (h : xlr G ls L) (hi : i + 1 < L.length) (hc : v.category = 2) : ∃ ls', storeLocals ls i (xv G v) = some ls' ∧ xlr G ls' (xst2 L i v) := by
  obtain ⟨ls', e, h'⟩ := lv_store2 (v := xv G v) h.has hi (by rw [xv_cat]; exact hc)
  refine ⟨ls', e, ⟨by rw [xst2, List.length_set, xst1_len]; exact h'.1, h'.2.1, fun j w hw => ?_⟩⟩
  have hj : j ≠ i + 1 := by
    intro q
    subst q
    simp only [xst2, List.getElem?_set, if_true] at hw
    split at hw <;> simp_all
  have hw : (xst1 L i v)[j]? = some (some w) := by
    simpa only [xst2, List.getElem?_set, if_neg (Ne.symm hj)] using hw
  rcases xst1_get hw with ⟨rfl, rfl⟩ | ⟨h1, h2, h3⟩
  · exact h'.2.2 (_, _) List.mem_cons_self
  · refine h'.2.2 (j, xv G w) (List.mem_cons_of_mem _ (List.mem_filter.mpr ⟨(xll_mem L 0 _).mpr ⟨j, w, h2, by simp⟩, ?_⟩))
    have h4 : ¬ (j + 1 = i ∧ (xv G w).category = 2) := by rw [xv_cat]; exact h3
    simp [h1, hj]
    exact Classical.not_and_iff_not_or_not.mp h4
/-- the locals with which a method begins -/
def xsl (as : List Value) : xL := as.flatMap fun v => if v.category = 2 then [some v, none] else [some v]
def xent (n : Nat) (as : List Value) : xL := xsl as ++ List.replicate (n - (xsl as).length) none
