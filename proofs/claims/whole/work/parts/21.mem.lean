/-! THE PURE LEVEL'S MEMORY: what a cell is (its shape, which stays) and what it holds (which changes) -/
def zv : Value → Value
  | .int _ => .int 0
  | v => v
def shp : xC → xC
  | .inl (t, n, .inl _) => .inl (t, n, .inl (fun _ => 0))
  | .inl (t, n, .inr (.inl _)) => .inl (t, n, .inr (.inl (fun _ => 0)))
  | .inl (t, n, .inr (.inr f)) => .inl (t, n, .inr (.inr f))
  | .inr (c, fs) => .inr (c, fs.map zv)
def Sp (P : xH) (a : Nat) : xC := shp (P.2.2 a)
def aSh (t : FieldType) (n : Nat) : xC := .inl (t, n, .inl (fun _ => 0))
def jSh (n : Nat) : xC := .inl (.long, n, .inr (.inl (fun _ => 0)))
/-- an int, boolean or byte of an array; a long of one; an int field -/
def gI (P : xH) (a i : Nat) : Int32 := match P.2.2 a with
  | .inl (_, _, .inl f) => f i
  | _ => 0
def gJ (P : xH) (a i : Nat) : Int64 := match P.2.2 a with
  | .inl (_, _, .inr (.inl f)) => f i
  | _ => 0
def gX (P : xH) (o k : Nat) : Int32 := match P.2.2 o with
  | .inr (_, fs) => (match fs[k]? with | some (.int x) => x | _ => 0)
  | _ => 0
def wI (P : xH) (a i : Nat) (x : Int32) : xH := xput P a (match P.2.2 a with
  | .inl (t, n, .inl f) => .inl (t, n, .inl (upd f i x))
  | c => c)
def wJ (P : xH) (a i : Nat) (x : Int64) : xH := xput P a (match P.2.2 a with
  | .inl (t, n, .inr (.inl f)) => .inl (t, n, .inr (.inl (vp_updL f i x)))
  | c => c)
def wX (P : xH) (o k : Nat) (x : Int32) : xH := xput P o (match P.2.2 o with
  | .inr (c, fs) => .inr (c, fs.set k (.int x))
  | c => c)
/-! what a shape says of its cell -/
theorem Sp_arr {P : xH} {a n : Nat} {t : FieldType} (h : Sp P a = aSh t n) : P.2.2 a = .inl (t, n, .inl (gI P a)) := by
  unfold Sp aSh at h
  unfold gI
  generalize P.2.2 a = c at h ⊢
  match c, h with
  | .inl (t', n', .inl f), h =>
    have h := Sum.inl.inj h
    have e1 := congrArg Prod.fst h
    have e2 := congrArg (fun q => q.2.1) h
    simp only at e1 e2
    rw [e1, e2]
  | .inl (_, _, .inr (.inl _)), h => simp [shp] at h
  | .inl (_, _, .inr (.inr _)), h => simp [shp] at h
  | .inr (_, _), h => simp [shp] at h
theorem Sp_arrJ {P : xH} {a n : Nat} (h : Sp P a = jSh n) : P.2.2 a = .inl (.long, n, .inr (.inl (gJ P a))) := by
  unfold Sp jSh at h
  unfold gJ
  generalize P.2.2 a = c at h ⊢
  match c, h with
  | .inl (_, _, .inl _), h => simp [shp] at h
  | .inl (t', n', .inr (.inl f)), h =>
    have h := Sum.inl.inj h
    have e1 := congrArg Prod.fst h
    have e2 := congrArg (fun q => q.2.1) h
    simp only at e1 e2
    rw [e1, e2]
  | .inl (_, _, .inr (.inr _)), h => simp [shp] at h
  | .inr (_, _), h => simp [shp] at h
theorem Sp_rows {P : xH} {a n : Nat} {t : FieldType} {f : Nat → Option Nat} (h : Sp P a = .inl (t, n, .inr (.inr f))) : P.2.2 a = .inl (t, n, .inr (.inr f)) := by
  unfold Sp at h
  generalize P.2.2 a = c at h ⊢
  match c, h with
  | .inl (_, _, .inl _), h => simp [shp] at h
  | .inl (_, _, .inr (.inl _)), h => simp [shp] at h
  | .inl (_, _, .inr (.inr _)), h => exact h
  | .inr (_, _), h => simp [shp] at h
theorem Sp_obj {P : xH} {o c : Nat} {fs : List Value} (h : Sp P o = .inr (c, fs)) : ∃ gs, P.2.2 o = .inr (c, gs) ∧ gs.map zv = fs := by
  unfold Sp at h
  generalize P.2.2 o = q at h ⊢
  match q, h with
  | .inl (_, _, .inl _), h => simp [shp] at h
  | .inl (_, _, .inr (.inl _)), h => simp [shp] at h
  | .inl (_, _, .inr (.inr _)), h => simp [shp] at h
  | .inr (c', gs), h =>
    have h := Sum.inr.inj h
    have e1 := congrArg Prod.fst h
    have e2 := congrArg Prod.snd h
    simp only at e1 e2
    rw [← e1]
    exact ⟨gs, rfl, e2⟩
theorem zv_int {v : Value} (h : zv v = .int 0) : ∃ x, v = .int x := by
  cases v with
  | int x => exact ⟨x, rfl⟩
  | _ => cases h
theorem zv_ref {v : Value} {r : Nat} (h : zv v = .ref r) : v = .ref r := by
  cases v with
  | int x => cases h
  | _ => exact h
theorem Sp_int {P : xH} {o c k : Nat} {fs : List Value} (h : Sp P o = .inr (c, fs)) (hk : fs[k]? = some (.int 0)) : ∃ gs, P.2.2 o = .inr (c, gs) ∧ gs.map zv = fs ∧ gs[k]? = some (.int (gX P o k)) := by
  obtain ⟨gs, h1, h2⟩ := Sp_obj h
  refine ⟨gs, h1, h2, ?_⟩
  rw [← h2, List.getElem?_map] at hk
  obtain ⟨v, h3, h4⟩ := Option.map_eq_some_iff.mp hk
  obtain ⟨x, rfl⟩ := zv_int h4
  have e : gX P o k = x := by
    unfold gX
    rw [h1]
    simp only [h3]
  rw [e]
  exact h3
/-! reads -/
theorem rA_sp {P : xH} {o ci k r : Nat} {fs : List Value} (h : Sp P o = .inr (ci, fs)) (hk : fs[k]? = some (.ref r)) : rA P o ci k = some r := by
  obtain ⟨gs, h1, h2⟩ := Sp_obj h
  rw [← h2, List.getElem?_map] at hk
  obtain ⟨v, h3, h4⟩ := Option.map_eq_some_iff.mp hk
  have h4 := zv_ref h4
  subst h4
  unfold rA
  rw [h1]
  simp only [h3, if_true]
theorem rI_sp {P : xH} {o ci k : Nat} {fs : List Value} (h : Sp P o = .inr (ci, fs)) (hk : fs[k]? = some (.int 0)) : rI P o ci k = some (gX P o k) := by
  obtain ⟨gs, h1, -, h3⟩ := Sp_int h hk
  unfold rI
  rw [h1]
  simp only [h3, if_true]
theorem kO_sp {P : xH} {o ci : Nat} {fs : List Value} (h : Sp P o = .inr (ci, fs)) : kO P o ci = some () := by
  obtain ⟨gs, h1, -⟩ := Sp_obj h
  unfold kO
  rw [h1]
  simp only [if_true]
theorem aI_sp {P : xH} {a n : Nat} {i : Int32} (h : Sp P a = aSh .int n) (h0 : ¬ i < 0) (hn : i.toNatClampNeg < n) : aI P a i = some (gI P a i.toNatClampNeg) := by
  unfold aI
  rw [(Sp_arr h)]
  exact if_neg (fun q => q.elim h0 (Nat.not_le.mpr hn))
theorem aB_sp {P : xH} {a n : Nat} {i : Int32} (h : Sp P a = aSh .byte n) (h0 : ¬ i < 0) (hn : i.toNatClampNeg < n) : aB P a i = some (gI P a i.toNatClampNeg) := by
  unfold aB
  rw [(Sp_arr h)]
  exact if_neg (fun q => q.elim h0 (Nat.not_le.mpr hn))
theorem aZ_sp {P : xH} {a n : Nat} {i : Int32} (h : Sp P a = aSh .boolean n) (h0 : ¬ i < 0) (hn : i.toNatClampNeg < n) : aZ P a i = some (gI P a i.toNatClampNeg) := by
  unfold aZ
  rw [(Sp_arr h)]
  exact if_neg (fun q => q.elim h0 (Nat.not_le.mpr hn))
theorem aJ_sp {P : xH} {a n : Nat} {i : Int32} (h : Sp P a = jSh n) (h0 : ¬ i < 0) (hn : i.toNatClampNeg < n) : aJ P a i = some (gJ P a i.toNatClampNeg) := by
  unfold aJ
  rw [(Sp_arrJ h)]
  exact if_neg (fun q => q.elim h0 (Nat.not_le.mpr hn))
theorem aA_sp {P : xH} {a n r : Nat} {i : Int32} {f : Nat → Option Nat} (h : Sp P a = .inl (.array .int, n, .inr (.inr f))) (h0 : ¬ i < 0) (hn : i.toNatClampNeg < n) (hr : f i.toNatClampNeg = some r) : aA P a i = some r := by
  unfold aA
  rw [(Sp_rows h)]
  exact (if_neg (fun q => q.elim h0 (Nat.not_le.mpr hn))).trans hr
/-! writes -/
theorem sI_sp {P : xH} {a n : Nat} {i x : Int32} (h : Sp P a = aSh .int n) (h0 : ¬ i < 0) (hn : i.toNatClampNeg < n) : sI P a i x = some (wI P a i.toNatClampNeg x) := by
  unfold sI wI
  rw [(Sp_arr h)]
  exact if_neg (fun q => q.elim h0 (Nat.not_le.mpr hn))
theorem sB_sp {P : xH} {a n : Nat} {i x : Int32} (h : Sp P a = aSh .byte n) (h0 : ¬ i < 0) (hn : i.toNatClampNeg < n) : sB P a i x = some (wI P a i.toNatClampNeg (vp_nar .byte x)) := by
  unfold sB wI
  rw [(Sp_arr h)]
  exact if_neg (fun q => q.elim h0 (Nat.not_le.mpr hn))
theorem sZ_sp {P : xH} {a n : Nat} {i x : Int32} (h : Sp P a = aSh .boolean n) (h0 : ¬ i < 0) (hn : i.toNatClampNeg < n) : sZ P a i x = some (wI P a i.toNatClampNeg (vp_nar .boolean x)) := by
  unfold sZ wI
  rw [(Sp_arr h)]
  exact if_neg (fun q => q.elim h0 (Nat.not_le.mpr hn))
theorem sJ_sp {P : xH} {a n : Nat} {i : Int32} {x : Int64} (h : Sp P a = jSh n) (h0 : ¬ i < 0) (hn : i.toNatClampNeg < n) : sJ P a i x = some (wJ P a i.toNatClampNeg x) := by
  unfold sJ wJ
  rw [(Sp_arrJ h)]
  exact if_neg (fun q => q.elim h0 (Nat.not_le.mpr hn))
theorem wV_sp {P : xH} {o ci k : Nat} {x : Int32} {fs : List Value} (h : Sp P o = .inr (ci, fs)) (hk : fs[k]? = some (.int 0)) : wV P o ci k (.int x) = some (wX P o k x) := by
  obtain ⟨gs, h1, -, h3⟩ := Sp_int h hk
  unfold wV wX
  rw [h1]
  exact if_pos ⟨rfl, (List.getElem?_eq_some_iff.mp h3).1⟩
/-! shapes stay -/
theorem Sp_wI (P : xH) (a i : Nat) (x : Int32) (b : Nat) : Sp (wI P a i x) b = Sp P b := by
  unfold Sp wI
  by_cases e : b = a
  · subst e
    rw [xput_at]
    generalize P.2.2 b = c
    match c with
    | .inl (_, _, .inl _) => rfl
    | .inl (_, _, .inr (.inl _)) => rfl
    | .inl (_, _, .inr (.inr _)) => rfl
    | .inr (_, _) => rfl
  · rw [xput_ne _ _ e]
theorem Sp_wJ (P : xH) (a i : Nat) (x : Int64) (b : Nat) : Sp (wJ P a i x) b = Sp P b := by
  unfold Sp wJ
  by_cases e : b = a
  · subst e
    rw [xput_at]
    generalize P.2.2 b = c
    match c with
    | .inl (_, _, .inl _) => rfl
    | .inl (_, _, .inr (.inl _)) => rfl
    | .inl (_, _, .inr (.inr _)) => rfl
    | .inr (_, _) => rfl
  · rw [xput_ne _ _ e]
theorem Sp_wX {P : xH} {o c k : Nat} {x : Int32} {fs : List Value} (h : Sp P o = .inr (c, fs)) (hk : fs[k]? = some (.int 0)) (b : Nat) : Sp (wX P o k x) b = Sp P b := by
  by_cases e : b = o
  · subst e
    obtain ⟨gs, h1, h2, h3⟩ := Sp_int h hk
    rw [h]
    unfold Sp wX
    rw [xput_at, h1]
    show Sum.inr (c, (gs.set k (.int x)).map zv) = _
    rw [List.map_set, h2]
    show Sum.inr (c, fs.set k (.int 0)) = _
    congr 2
    exact List.ext_getElem? fun j => by
      rw [List.getElem?_set]
      split
      · rename_i e
        subst e
        split
        · exact hk.symm
        · rename_i hn
          rw [List.getElem?_eq_none (by omega)] at hk
          cases hk
      · rfl
  · unfold Sp wX
    rw [xput_ne _ _ e]
/-! what is read back -/
theorem gI_wI {P : xH} {a n i : Nat} {t : FieldType} {x : Int32} (h : Sp P a = aSh t n) (b j : Nat) : gI (wI P a i x) b j = if b = a ∧ j = i then x else gI P b j := by
  by_cases e : b = a
  · subst e
    have h1 := (Sp_arr h)
    have h2 : (wI P b i x).2.2 b = .inl (t, n, .inl (upd (gI P b) i x)) := by
      unfold wI
      rw [xput_at, h1]
    have h3 : gI (wI P b i x) b j = upd (gI P b) i x j := by
      show (match (wI P b i x).2.2 b with | .inl (_, _, .inl f) => f j | _ => 0) = _
      rw [h2]
    rw [h3]
    by_cases e2 : j = i
    · simp [upd, e2]
    · simp [upd, e2]
  · rw [if_neg (fun q => e q.1)]
    unfold gI wI
    rw [xput_ne _ _ e]
theorem gI_wJ (P : xH) (a i : Nat) (x : Int64) (b j : Nat) : gI (wJ P a i x) b j = gI P b j := by
  by_cases e : b = a
  · subst e
    unfold gI wJ
    rw [xput_at]
    generalize P.2.2 b = c
    match c with
    | .inl (_, _, .inl _) => rfl
    | .inl (_, _, .inr (.inl _)) => rfl
    | .inl (_, _, .inr (.inr _)) => rfl
    | .inr (_, _) => rfl
  · unfold gI wJ
    rw [xput_ne _ _ e]
theorem gI_wX (P : xH) (o k : Nat) (x : Int32) (b j : Nat) : gI (wX P o k x) b j = gI P b j := by
  by_cases e : b = o
  · subst e
    unfold gI wX
    rw [xput_at]
    generalize P.2.2 b = c
    match c with
    | .inl (_, _, .inl _) => rfl
    | .inl (_, _, .inr (.inl _)) => rfl
    | .inl (_, _, .inr (.inr _)) => rfl
    | .inr (_, _) => rfl
  · unfold gI wX
    rw [xput_ne _ _ e]
theorem gX_wI (P : xH) (a i : Nat) (x : Int32) (o k : Nat) : gX (wI P a i x) o k = gX P o k := by
  by_cases e : o = a
  · subst e
    unfold gX wI
    rw [xput_at]
    generalize P.2.2 o = c
    match c with
    | .inl (_, _, .inl _) => rfl
    | .inl (_, _, .inr (.inl _)) => rfl
    | .inl (_, _, .inr (.inr _)) => rfl
    | .inr (_, _) => rfl
  · unfold gX wI
    rw [xput_ne _ _ e]
theorem gX_wJ (P : xH) (a i : Nat) (x : Int64) (o k : Nat) : gX (wJ P a i x) o k = gX P o k := by
  by_cases e : o = a
  · subst e
    unfold gX wJ
    rw [xput_at]
    generalize P.2.2 o = c
    match c with
    | .inl (_, _, .inl _) => rfl
    | .inl (_, _, .inr (.inl _)) => rfl
    | .inl (_, _, .inr (.inr _)) => rfl
    | .inr (_, _) => rfl
  · unfold gX wJ
    rw [xput_ne _ _ e]
theorem gX_wX {P : xH} {o c k : Nat} {x : Int32} {fs : List Value} (h : Sp P o = .inr (c, fs)) (hk : fs[k]? = some (.int 0)) (p j : Nat) : gX (wX P o k x) p j = if p = o ∧ j = k then x else gX P p j := by
  by_cases e : p = o
  · subst e
    obtain ⟨gs, h1, h2, h3⟩ := Sp_int h hk
    have hlt := (List.getElem?_eq_some_iff.mp h3).1
    have h4 : (wX P p k x).2.2 p = .inr (c, gs.set k (.int x)) := by
      unfold wX
      rw [xput_at, h1]
    show (match (wX P p k x).2.2 p with | .inr (_, fs) => (match fs[j]? with | some (.int x) => x | _ => 0) | _ => 0) = _
    rw [h4]
    by_cases e2 : j = k
    · subst e2
      simp [List.getElem?_set, hlt]
    · rw [if_neg (fun q => e2 q.2)]
      show (match (gs.set k (.int x))[j]? with | some (.int x) => x | _ => 0) = gX P p j
      rw [List.getElem?_set_ne (fun q => e2 q.symm)]
      unfold gX
      rw [h1]
  · rw [if_neg (fun q => e q.1)]
    unfold gX wX
    rw [xput_ne _ _ e]
theorem gJ_wJ {P : xH} {a n i : Nat} {x : Int64} (h : Sp P a = jSh n) (b j : Nat) : gJ (wJ P a i x) b j = if b = a ∧ j = i then x else gJ P b j := by
  by_cases e : b = a
  · subst e
    have h1 := (Sp_arrJ h)
    have h2 : (wJ P b i x).2.2 b = .inl (.long, n, .inr (.inl (vp_updL (gJ P b) i x))) := by
      unfold wJ
      rw [xput_at, h1]
    have h3 : gJ (wJ P b i x) b j = vp_updL (gJ P b) i x j := by
      show (match (wJ P b i x).2.2 b with | .inl (_, _, .inr (.inl f)) => f j | _ => 0) = _
      rw [h2]
    rw [h3]
    by_cases e2 : j = i
    · simp [vp_updL, e2]
    · simp [vp_updL, e2]
  · rw [if_neg (fun q => e q.1)]
    unfold gJ wJ
    rw [xput_ne _ _ e]
