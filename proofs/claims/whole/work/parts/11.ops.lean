/-! HEAP READS AND WRITES AS FUNCTIONS (none: the machine would throw, or a shape is wrong), and what each is worth in the machine -/
abbrev xO : Type := Option (xR × xH)
def rI (P : xH) (o ci k : Nat) : Option Int32 := match P.2.2 o with
  | .inr (c, fs) => if c = ci then (match fs[k]? with | some (.int x) => some x | _ => none) else none
  | _ => none
def rA (P : xH) (o ci k : Nat) : Option Nat := match P.2.2 o with
  | .inr (c, fs) => if c = ci then (match fs[k]? with | some (.ref x) => some x | _ => none) else none
  | _ => none
def rV (P : xH) (o ci k : Nat) : Option Value := match P.2.2 o with
  | .inr (c, fs) => if c = ci then fs[k]? else none
  | _ => none
def wV (P : xH) (o ci k : Nat) (v : Value) : Option xH := match P.2.2 o with
  | .inr (c, fs) => if c = ci ∧ k < fs.length then some (xput P o (.inr (ci, fs.set k v))) else none
  | _ => none
def aI (P : xH) (a : Nat) (i : Int32) : Option Int32 := match P.2.2 a with
  | .inl (.int, n, .inl f) => if i < 0 ∨ n ≤ i.toNatClampNeg then none else some (f i.toNatClampNeg)
  | _ => none
def aB (P : xH) (a : Nat) (i : Int32) : Option Int32 := match P.2.2 a with
  | .inl (.byte, n, .inl f) => if i < 0 ∨ n ≤ i.toNatClampNeg then none else some (f i.toNatClampNeg)
  | _ => none
def aZ (P : xH) (a : Nat) (i : Int32) : Option Int32 := match P.2.2 a with
  | .inl (.boolean, n, .inl f) => if i < 0 ∨ n ≤ i.toNatClampNeg then none else some (f i.toNatClampNeg)
  | _ => none
def aJ (P : xH) (a : Nat) (i : Int32) : Option Int64 := match P.2.2 a with
  | .inl (.long, n, .inr (.inl f)) => if i < 0 ∨ n ≤ i.toNatClampNeg then none else some (f i.toNatClampNeg)
  | _ => none
def aA (P : xH) (a : Nat) (i : Int32) : Option Nat := match P.2.2 a with
  | .inl (.array .int, n, .inr (.inr f)) => if i < 0 ∨ n ≤ i.toNatClampNeg then none else f i.toNatClampNeg
  | _ => none
def sI (P : xH) (a : Nat) (i x : Int32) : Option xH := match P.2.2 a with
  | .inl (.int, n, .inl f) => if i < 0 ∨ n ≤ i.toNatClampNeg then none else some (xput P a (.inl (.int, n, .inl (upd f i.toNatClampNeg x))))
  | _ => none
def sB (P : xH) (a : Nat) (i x : Int32) : Option xH := match P.2.2 a with
  | .inl (.byte, n, .inl f) => if i < 0 ∨ n ≤ i.toNatClampNeg then none else some (xput P a (.inl (.byte, n, .inl (upd f i.toNatClampNeg (vp_nar .byte x)))))
  | _ => none
def sZ (P : xH) (a : Nat) (i x : Int32) : Option xH := match P.2.2 a with
  | .inl (.boolean, n, .inl f) => if i < 0 ∨ n ≤ i.toNatClampNeg then none else some (xput P a (.inl (.boolean, n, .inl (upd f i.toNatClampNeg (vp_nar .boolean x)))))
  | _ => none
def sJ (P : xH) (a : Nat) (i : Int32) (x : Int64) : Option xH := match P.2.2 a with
  | .inl (.long, n, .inr (.inl f)) => if i < 0 ∨ n ≤ i.toNatClampNeg then none else some (xput P a (.inl (.long, n, .inr (.inl (vp_updL f i.toNatClampNeg x)))))
  | _ => none
/-- a length: of ints (0), bytes (1), longs (2), booleans (3), rows of ints (4) -/
def aL (P : xH) (a : Nat) : Option Int32 := match P.2.2 a with
  | .inl (.int, n, _) => some (Int32.ofNat n)
  | .inl (.byte, n, _) => some (Int32.ofNat n)
  | .inl (.long, n, _) => some (Int32.ofNat n)
  | .inl (.boolean, n, _) => some (Int32.ofNat n)
  | .inl (.array .int, n, _) => some (Int32.ofNat n)
  | _ => none
def cpI (P : xH) (a : Nat) (sp : Int32) (b : Nat) (dp n : Int32) : Option xH := match P.2.2 a, P.2.2 b with
  | .inl (.int, na, .inl f), .inl (.int, nb, .inl g) => if sp < 0 ∨ dp < 0 ∨ n < 0 ∨ na < sp.toNatClampNeg + n.toNatClampNeg ∨ nb < dp.toNatClampNeg + n.toNatClampNeg then none else some (xput P b (.inl (.int, nb, .inl (va_cpy f g sp.toNatClampNeg dp.toNatClampNeg n.toNatClampNeg))))
  | _, _ => none
def cpJ (P : xH) (a : Nat) (sp : Int32) (b : Nat) (dp n : Int32) : Option xH := match P.2.2 a, P.2.2 b with
  | .inl (.long, na, .inr (.inl f)), .inl (.long, nb, .inr (.inl g)) => if sp < 0 ∨ dp < 0 ∨ n < 0 ∨ na < sp.toNatClampNeg + n.toNatClampNeg ∨ nb < dp.toNatClampNeg + n.toNatClampNeg then none else some (xput P b (.inl (.long, nb, .inr (.inl (va_cpy f g sp.toNatClampNeg dp.toNatClampNeg n.toNatClampNeg)))))
  | _, _ => none
def nO (P : xH) (ci : Nat) : Option xH := if P.1 + 1 ≤ 601024 ∧ P.2.1 + xN ci ≤ 7293034 then some (xnew P (xN ci) (.inr (ci, xdef ci))) else none
def nI' (P : xH) (n : Int32) : Option xH := if n < 0 ∨ 100000 < n.toNatClampNeg ∨ 601024 < P.1 + 1 ∨ 7293034 < P.2.1 + n.toNatClampNeg then none else some (xnew P n.toNatClampNeg (.inl (.int, n.toNatClampNeg, .inl (fun _ => 0))))
def nB' (P : xH) (n : Int32) : Option xH := if n < 0 ∨ 100000 < n.toNatClampNeg ∨ 601024 < P.1 + 1 ∨ 7293034 < P.2.1 + n.toNatClampNeg then none else some (xnew P n.toNatClampNeg (.inl (.byte, n.toNatClampNeg, .inl (fun _ => 0))))
def nZ' (P : xH) (n : Int32) : Option xH := if n < 0 ∨ 100000 < n.toNatClampNeg ∨ 601024 < P.1 + 1 ∨ 7293034 < P.2.1 + n.toNatClampNeg then none else some (xnew P n.toNatClampNeg (.inl (.boolean, n.toNatClampNeg, .inl (fun _ => 0))))
def nJ' (P : xH) (n : Int32) : Option xH := if n < 0 ∨ 100000 < n.toNatClampNeg ∨ 601024 < P.1 + 1 ∨ 7293034 < P.2.1 + n.toNatClampNeg then none else some (xnew P n.toNatClampNeg (.inl (.long, n.toNatClampNeg, .inr (.inl (fun _ => 0)))))
def nM' (P : xH) (n k : Int32) : Option xH := if n < 0 ∨ k < 0 ∨ 100000 < n.toNatClampNeg ∨ 100000 < k.toNatClampNeg ∨ 601024 < P.1 + 1 + n.toNatClampNeg ∨ 7293034 < P.2.1 + n.toNatClampNeg + n.toNatClampNeg * k.toNatClampNeg then none else some (xmna P n.toNatClampNeg k.toNatClampNeg)
def tE (P : xH) (k : Nat) : xO := if P.1 + 1 ≤ 601024 ∧ P.2.1 + 6 ≤ 7293034 then some (.inr P.1, xnew P 6 (.inr (20 + k, []))) else none
theorem rI_ok {P : xH} {o ci k : Nat} {x : Int32} (h : rI P o ci k = some x) : ∃ fs, P.2.2 o = .inr (ci, fs) ∧ fs[k]? = some (.int x) := by
  unfold rI at h
  split at h
  · rename_i c fs hc
    split at h
    · rename_i e
      subst e
      split at h
      · rename_i y hy
        cases h
        exact ⟨fs, hc, hy⟩
      · cases h
    · cases h
  · cases h
theorem rA_ok {P : xH} {o ci k : Nat} {x : Nat} (h : rA P o ci k = some x) : ∃ fs, P.2.2 o = .inr (ci, fs) ∧ fs[k]? = some (.ref x) := by
  unfold rA at h
  split at h
  · rename_i c fs hc
    split at h
    · rename_i e
      subst e
      split at h
      · rename_i y hy
        cases h
        exact ⟨fs, hc, hy⟩
      · cases h
    · cases h
  · cases h
theorem rV_ok {P : xH} {o ci k : Nat} {v : Value} (h : rV P o ci k = some v) : ∃ fs, P.2.2 o = .inr (ci, fs) ∧ fs[k]? = some v := by
  unfold rV at h
  split at h
  · rename_i c fs hc
    split at h
    · rename_i e
      subst e
      exact ⟨fs, hc, h⟩
    · cases h
  · cases h
theorem wV_ok {P P2 : xH} {o ci k : Nat} {v : Value} (h : wV P o ci k v = some P2) : ∃ fs, P.2.2 o = .inr (ci, fs) ∧ k < fs.length ∧ P2 = xput P o (.inr (ci, fs.set k v)) := by
  unfold wV at h
  split at h
  · rename_i c fs hc
    split at h
    · rename_i e
      obtain ⟨rfl, e2⟩ := e
      cases h
      exact ⟨fs, hc, e2, rfl⟩
    · cases h
  · cases h
section XOPS
variable {G : xG} {l : Launch} {d : Nat} {M : xM} {pc : Nat} {L : xL} {st : List Value} {P P2 : xH} {Q : xR → xH → Prop}
/-- fewer locals are known -/
def xmask : List Bool → xL → xL
  | b :: bs, v :: vs => (if b then v else none) :: xmask bs vs
  | _, vs => vs
theorem xmask_len : ∀ (bs : List Bool) (L : xL), (xmask bs L).length = L.length
  | [], L => by cases L <;> rfl
  | b :: bs, [] => rfl
  | b :: bs, v :: vs => by simp [xmask, xmask_len bs vs]
theorem xmask_get : ∀ (bs : List Bool) (L : xL) (i : Nat) (v : Value), (xmask bs L)[i]? = some (some v) → L[i]? = some (some v)
  | [], L, i, v, h => by cases L <;> exact h
  | b :: bs, [], i, v, h => h
  | b :: bs, w :: vs, 0, v, h => by
    cases b
    · simp [xmask] at h
    · simpa [xmask] using h
  | b :: bs, w :: vs, i + 1, v, h => by
    simp only [xmask, List.getElem?_cons_succ] at h ⊢
    exact xmask_get bs vs i v h
theorem Wp.mask (bs : List Bool) (h : Wp G l d M pc (xmask bs L) st P Q) : Wp G l d M pc L st P Q := by
  intro p e s m args below meth c R n0 k0 hE hB H locs cells slots ls h3 h4 h5 h6 h7 h8
  exact h p e s m args below meth c R n0 k0 hE hB H locs cells slots ls h3 h4 ⟨by rw [xmask_len]; exact h5.1, h5.2.1, fun i v hv => h5.2.2 i v (xmask_get bs L i v hv)⟩ (by rw [xmask_len]; exact h6) h7 h8
theorem k_rI {o ci k idx : Nat} {x : Int32} (e : rI P o ci k = some x) (hd : decode M.2.1 pc = .ok (.getfield idx, 3)) (hF : xF M.1.cls idx ci k) (K : Wp G l d M (pc + 3) L (.int x :: st) P Q) : Wp G l d M pc L (.ref o :: st) P Q := by
  obtain ⟨fs, h1, h2⟩ := rI_ok e
  exact x_getf hd hF h1 h2 K
theorem k_rA {o ci k idx x : Nat} (e : rA P o ci k = some x) (hd : decode M.2.1 pc = .ok (.getfield idx, 3)) (hF : xF M.1.cls idx ci k) (K : Wp G l d M (pc + 3) L (.ref x :: st) P Q) : Wp G l d M pc L (.ref o :: st) P Q := by
  obtain ⟨fs, h1, h2⟩ := rA_ok e
  exact x_getf hd hF h1 h2 K
theorem k_rV {o ci k idx : Nat} {v : Value} (e : rV P o ci k = some v) (hd : decode M.2.1 pc = .ok (.getfield idx, 3)) (hF : xF M.1.cls idx ci k) (K : Wp G l d M (pc + 3) L (v :: st) P Q) : Wp G l d M pc L (.ref o :: st) P Q := by
  obtain ⟨fs, h1, h2⟩ := rV_ok e
  exact x_getf hd hF h1 h2 K
theorem k_wI {o ci k idx : Nat} {x : Int32} (e : wV P o ci k (.int x) = some P2) (hd : decode M.2.1 pc = .ok (.putfield idx, 3)) (hF : xF M.1.cls idx ci k) (hfin : (xT ci k).2.2.2 = false ∨ ((xT ci k).2.2.2 = true ∧ M.1.name = "<init>" ∧ (xT ci k).1 = M.1.cls)) (hty : xTy ci k = .int) (K : Wp G l d M (pc + 3) L st P2 Q) : Wp G l d M pc L (.int x :: .ref o :: st) P Q := by
  obtain ⟨fs, h1, h2, rfl⟩ := wV_ok e
  exact x_putf hd hF hfin (by rw [hty]; rfl) (by rw [hty]; rfl) h1 h2 K
theorem k_wZ {o ci k idx : Nat} {x : Int32} (e : wV P o ci k (.int x) = some P2) (hx : x = 0 ∨ x = 1) (hd : decode M.2.1 pc = .ok (.putfield idx, 3)) (hF : xF M.1.cls idx ci k) (hfin : (xT ci k).2.2.2 = false ∨ ((xT ci k).2.2.2 = true ∧ M.1.name = "<init>" ∧ (xT ci k).1 = M.1.cls)) (hty : xTy ci k = .boolean) (K : Wp G l d M (pc + 3) L st P2 Q) : Wp G l d M pc L (.int x :: .ref o :: st) P Q := by
  obtain ⟨fs, h1, h2, rfl⟩ := wV_ok e
  exact x_putf hd hF hfin (by rw [hty]; rcases hx with rfl | rfl <;> rfl) (by rw [hty]; rcases hx with rfl | rfl; exact (by decide : fits .boolean (.int 0) = true); exact (by decide : fits .boolean (.int 1) = true)) h1 h2 K
theorem k_wA {o ci k idx a : Nat} (e : wV P o ci k (.ref a) = some P2) (hd : decode M.2.1 pc = .ok (.putfield idx, 3)) (hF : xF M.1.cls idx ci k) (hfin : (xT ci k).2.2.2 = false ∨ ((xT ci k).2.2.2 = true ∧ M.1.name = "<init>" ∧ (xT ci k).1 = M.1.cls)) (hty : (xTy ci k).isReference = true) (K : Wp G l d M (pc + 3) L st P2 Q) : Wp G l d M pc L (.ref a :: .ref o :: st) P Q := by
  obtain ⟨fs, h1, h2, rfl⟩ := wV_ok e
  refine x_putf hd hF hfin ?_ ?_ h1 h2 K
  · cases h9 : xTy ci k <;> rfl
  · cases h9 : xTy ci k <;> rw [h9] at hty <;> first | rfl | cases hty
theorem k_aI {a : Nat} {i x : Int32} (e : aI P a i = some x) (hd : decode M.2.1 pc = .ok (.iaload, 1)) (K : Wp G l d M (pc + 1) L (.int x :: st) P Q) : Wp G l d M pc L (.int i :: .ref a :: st) P Q := by
  unfold aI at e
  split at e
  · rename_i n f hc
    split at e
    · cases e
    · rename_i hi
      cases e
      exact x_iald hd hc hi K
  · cases e
theorem k_aB {a : Nat} {i x : Int32} (e : aB P a i = some x) (hd : decode M.2.1 pc = .ok (.baload, 1)) (K : Wp G l d M (pc + 1) L (.int x :: st) P Q) : Wp G l d M pc L (.int i :: .ref a :: st) P Q := by
  unfold aB at e
  split at e
  · rename_i n f hc
    split at e
    · cases e
    · rename_i hi
      cases e
      exact x_bald hd hc hi K
  · cases e
theorem k_aZ {a : Nat} {i x : Int32} (e : aZ P a i = some x) (hd : decode M.2.1 pc = .ok (.baload, 1)) (K : Wp G l d M (pc + 1) L (.int x :: st) P Q) : Wp G l d M pc L (.int i :: .ref a :: st) P Q := by
  unfold aZ at e
  split at e
  · rename_i n f hc
    split at e
    · cases e
    · rename_i hi
      cases e
      exact x_zald hd hc hi K
  · cases e
theorem k_aJ {a : Nat} {i : Int32} {x : Int64} (e : aJ P a i = some x) (hd : decode M.2.1 pc = .ok (.laload, 1)) (K : Wp G l d M (pc + 1) L (.long x :: st) P Q) : Wp G l d M pc L (.int i :: .ref a :: st) P Q := by
  unfold aJ at e
  split at e
  · rename_i n f hc
    split at e
    · cases e
    · rename_i hi
      cases e
      exact x_lald hd hc hi K
  · cases e
theorem k_aA {a x : Nat} {i : Int32} (e : aA P a i = some x) (hd : decode M.2.1 pc = .ok (.aaload, 1)) (K : Wp G l d M (pc + 1) L (.ref x :: st) P Q) : Wp G l d M pc L (.int i :: .ref a :: st) P Q := by
  unfold aA at e
  split at e
  · rename_i n f hc
    split at e
    · cases e
    · rename_i hi
      exact x_aald hd hc hi e K
  · cases e
theorem k_aL {a : Nat} {x : Int32} (e : aL P a = some x) (hd : decode M.2.1 pc = .ok (.arraylength, 1)) (K : Wp G l d M (pc + 1) L (.int x :: st) P Q) : Wp G l d M pc L (.ref a :: st) P Q := by
  unfold aL at e
  split at e
  · rename_i n z hc; cases e; exact x_alen (t := 0) hd hc rfl K
  · rename_i n z hc; cases e; exact x_alen (t := 1) hd hc rfl K
  · rename_i n z hc; cases e; exact x_alen (t := 2) hd hc rfl K
  · rename_i n z hc; cases e; exact x_alen (t := 3) hd hc rfl K
  · rename_i n z hc; cases e; exact x_alen (t := 4) hd hc rfl K
  · cases e
theorem k_sI {a : Nat} {i x : Int32} (e : sI P a i x = some P2) (hd : decode M.2.1 pc = .ok (.iastore, 1)) (K : Wp G l d M (pc + 1) L st P2 Q) : Wp G l d M pc L (.int x :: .int i :: .ref a :: st) P Q := by
  unfold sI at e
  split at e
  · rename_i n f hc
    split at e
    · cases e
    · rename_i hi
      cases e
      exact x_iast hd hc hi K
  · cases e
theorem k_sB {a : Nat} {i x : Int32} (e : sB P a i x = some P2) (hd : decode M.2.1 pc = .ok (.bastore, 1)) (K : Wp G l d M (pc + 1) L st P2 Q) : Wp G l d M pc L (.int x :: .int i :: .ref a :: st) P Q := by
  unfold sB at e
  split at e
  · rename_i n f hc
    split at e
    · cases e
    · rename_i hi
      cases e
      exact x_bast hd hc hi K
  · cases e
theorem k_sZ {a : Nat} {i x : Int32} (e : sZ P a i x = some P2) (hd : decode M.2.1 pc = .ok (.bastore, 1)) (K : Wp G l d M (pc + 1) L st P2 Q) : Wp G l d M pc L (.int x :: .int i :: .ref a :: st) P Q := by
  unfold sZ at e
  split at e
  · rename_i n f hc
    split at e
    · cases e
    · rename_i hi
      cases e
      exact x_zast hd hc hi K
  · cases e
theorem k_sJ {a : Nat} {i : Int32} {x : Int64} (e : sJ P a i x = some P2) (hd : decode M.2.1 pc = .ok (.lastore, 1)) (K : Wp G l d M (pc + 1) L st P2 Q) : Wp G l d M pc L (.long x :: .int i :: .ref a :: st) P Q := by
  unfold sJ at e
  split at e
  · rename_i n f hc
    split at e
    · cases e
    · rename_i hi
      cases e
      exact x_last hd hc hi K
  · cases e
theorem k_cpI {idx a b : Nat} {sp dp n : Int32} (e : cpI P a sp b dp n = some P2) (hd : decode M.2.1 pc = .ok (.invokestatic idx, 3)) (w1 : Cond.methodLink M.1.cls idx arraycopyName ∈ xWS) (hst : (st.map fun v => v.category).sum ≤ 8) (hdd : 2 ≤ d) (K : Wp G l d M (pc + 3) L st P2 Q) : Wp G l d M pc L (.int n :: .int dp :: .ref b :: .int sp :: .ref a :: st) P Q := by
  unfold cpI at e
  split at e
  · rename_i na f nb g h1 h2
    split at e
    · cases e
    · rename_i hi
      cases e
      exact x_copyI hd w1 wnat_arraycopy ws_arraycopy wini_J10 h1 h2 (fun q => hi (Or.inl q)) (fun q => hi (Or.inr (Or.inl q))) (fun q => hi (Or.inr (Or.inr (Or.inl q)))) (Nat.not_lt.mp fun q => hi (Or.inr (Or.inr (Or.inr (Or.inl q))))) (Nat.not_lt.mp fun q => hi (Or.inr (Or.inr (Or.inr (Or.inr q))))) hst hdd K
  · cases e
theorem k_cpJ {idx a b : Nat} {sp dp n : Int32} (e : cpJ P a sp b dp n = some P2) (hd : decode M.2.1 pc = .ok (.invokestatic idx, 3)) (w1 : Cond.methodLink M.1.cls idx arraycopyName ∈ xWS) (hst : (st.map fun v => v.category).sum ≤ 8) (hdd : 2 ≤ d) (K : Wp G l d M (pc + 3) L st P2 Q) : Wp G l d M pc L (.int n :: .int dp :: .ref b :: .int sp :: .ref a :: st) P Q := by
  unfold cpJ at e
  split at e
  · rename_i na f nb g h1 h2
    split at e
    · cases e
    · rename_i hi
      cases e
      exact x_copyJ hd w1 wnat_arraycopy ws_arraycopy wini_J10 h1 h2 (fun q => hi (Or.inl q)) (fun q => hi (Or.inr (Or.inl q))) (fun q => hi (Or.inr (Or.inr (Or.inl q)))) (Nat.not_lt.mp fun q => hi (Or.inr (Or.inr (Or.inr (Or.inl q))))) (Nat.not_lt.mp fun q => hi (Or.inr (Or.inr (Or.inr (Or.inr q))))) hst hdd K
  · cases e
theorem k_nO {ci idx : Nat} (e : nO P ci = some P2) (hci : ci < 12) (hd : decode M.2.1 pc = .ok (.new idx, 3)) (w1 : Cond.classLink M.1.cls idx (xNm ci) ∈ xWS) (w2 : Cond.instantiable (xNm ci) (xN ci) ∈ xWS) (w3 : Cond.initialized (xNm ci) ∈ xWS) (hok : xClOk ci) (K : Wp G l d M (pc + 3) L (.ref P.1 :: st) P2 Q) : Wp G l d M pc L st P Q := by
  unfold nO at e
  split at e
  · rename_i h
    cases e
    exact x_new hci hd w1 w2 w3 hok h.1 h.2 K
  · cases e
theorem k_nI {n : Int32} (e : nI' P n = some P2) (hd : decode M.2.1 pc = .ok (.newarray .int, 2)) (K : Wp G l d M (pc + 2) L (.ref P.1 :: st) P2 Q) : Wp G l d M pc L (.int n :: st) P Q := by
  unfold nI' at e
  split at e
  · cases e
  · rename_i h
    cases e
    exact x_newI _ hd war_int (fun q => h (Or.inl q)) rfl (by omega) (by omega) (by omega) K
theorem k_nB {n : Int32} (e : nB' P n = some P2) (hd : decode M.2.1 pc = .ok (.newarray .byte, 2)) (K : Wp G l d M (pc + 2) L (.ref P.1 :: st) P2 Q) : Wp G l d M pc L (.int n :: st) P Q := by
  unfold nB' at e
  split at e
  · cases e
  · rename_i h
    cases e
    exact x_newB _ hd war_byte (fun q => h (Or.inl q)) rfl (by omega) (by omega) (by omega) K
theorem k_nZ {n : Int32} (e : nZ' P n = some P2) (hd : decode M.2.1 pc = .ok (.newarray .boolean, 2)) (K : Wp G l d M (pc + 2) L (.ref P.1 :: st) P2 Q) : Wp G l d M pc L (.int n :: st) P Q := by
  unfold nZ' at e
  split at e
  · cases e
  · rename_i h
    cases e
    exact x_newZ _ hd war_boolean (fun q => h (Or.inl q)) rfl (by omega) (by omega) (by omega) K
theorem k_nJ {n : Int32} (e : nJ' P n = some P2) (hd : decode M.2.1 pc = .ok (.newarray .long, 2)) (K : Wp G l d M (pc + 2) L (.ref P.1 :: st) P2 Q) : Wp G l d M pc L (.int n :: st) P Q := by
  unfold nJ' at e
  split at e
  · cases e
  · rename_i h
    cases e
    exact x_newJ _ hd war_long (fun q => h (Or.inl q)) rfl (by omega) (by omega) (by omega) K
theorem k_nM {n k : Int32} {idx : Nat} (e : nM' P n k = some P2) (hd : decode M.2.1 pc = .ok (.multianewarray idx 2, 4)) (w1 : Cond.classLink M.1.cls idx "[[I" ∈ xWS) (K : Wp G l d M (pc + 4) L (.ref P.1 :: st) P2 Q) : Wp G l d M pc L (.int k :: .int n :: st) P Q := by
  unfold nM' at e
  split at e
  · cases e
  · rename_i h
    cases e
    exact x_mna hd w1 war_int (fun q => h (Or.inl q)) (fun q => h (Or.inr (Or.inl q))) rfl rfl (by omega) (by omega) (by omega) (by omega) K
end XOPS
/-! what comes back from a call -/
def kO (P : xH) (o ci : Nat) : Option Unit := match P.2.2 o with
  | .inr (c, _) => if c = ci then some () else none
  | _ => none
theorem kO_ok {P : xH} {o ci : Nat} {u : Unit} (h : kO P o ci = some u) : ∃ fs, P.2.2 o = .inr (ci, fs) := by
  unfold kO at h
  split at h
  · rename_i c fs hc
    split at h
    · rename_i e
      subst e
      exact ⟨fs, hc⟩
    · cases h
  · cases h
def xI (r : xR × xH) (k : Int32 → xH → xO) : xO := match r with
  | (.inl (some (.int v)), P) => k v P
  | _ => none
def xJ (r : xR × xH) (k : Int64 → xH → xO) : xO := match r with
  | (.inl (some (.long v)), P) => k v P
  | _ => none
def xU (r : xR × xH) (k : xH → xO) : xO := match r with
  | (.inl none, P) => k P
  | _ => none
def xIt (r : xR × xH) (k : Int32 → xH → xO) : xO := match r with
  | (.inl (some (.int v)), P) => k v P
  | (.inr i, P) => some (.inr i, P)
  | _ => none
def xUt (r : xR × xH) (k : xH → xO) : xO := match r with
  | (.inl none, P) => k P
  | (.inr i, P) => some (.inr i, P)
  | _ => none
theorem xI_ok {r : xR × xH} {k : Int32 → xH → xO} {z : xR × xH} (h : xI r k = some z) : ∃ v P, r = (.inl (some (.int v)), P) ∧ k v P = some z := by
  unfold xI at h
  split at h
  · exact ⟨_, _, rfl, h⟩
  · cases h
theorem xJ_ok {r : xR × xH} {k : Int64 → xH → xO} {z : xR × xH} (h : xJ r k = some z) : ∃ v P, r = (.inl (some (.long v)), P) ∧ k v P = some z := by
  unfold xJ at h
  split at h
  · exact ⟨_, _, rfl, h⟩
  · cases h
theorem xU_ok {r : xR × xH} {k : xH → xO} {z : xR × xH} (h : xU r k = some z) : ∃ P, r = (.inl none, P) ∧ k P = some z := by
  unfold xU at h
  split at h
  · exact ⟨_, rfl, h⟩
  · cases h
theorem xIt_ok {r : xR × xH} {k : Int32 → xH → xO} {z : xR × xH} (h : xIt r k = some z) : (∃ v P, r = (.inl (some (.int v)), P) ∧ k v P = some z) ∨ ∃ i P, r = (.inr i, P) ∧ z = (.inr i, P) := by
  unfold xIt at h
  split at h
  · exact Or.inl ⟨_, _, rfl, h⟩
  · cases h; exact Or.inr ⟨_, _, rfl, rfl⟩
  · cases h
theorem xUt_ok {r : xR × xH} {k : xH → xO} {z : xR × xH} (h : xUt r k = some z) : (∃ P, r = (.inl none, P) ∧ k P = some z) ∨ ∃ i P, r = (.inr i, P) ∧ z = (.inr i, P) := by
  unfold xUt at h
  split at h
  · exact Or.inl ⟨_, rfl, h⟩
  · cases h; exact Or.inr ⟨_, _, rfl, rfl⟩
  · cases h
