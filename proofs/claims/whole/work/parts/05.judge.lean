theorem xsl_len (G : xG) (as : List Value) : (lg_sl (as.map (xv G))).length = (xsl as).length := by
  induction as with
  | nil => rfl
  | cons v t ih =>
    simp only [lg_sl, xsl, List.map_cons, List.flatMap_cons, List.length_append, xv_cat] at ih ⊢
    rw [ih]
    split <;> rfl
theorem xsl_args (G : xG) : ∀ (as : List Value) (b i : Nat) (v : Value), (xsl as)[i]? = some (some v) → (b + i, xv G v) ∈ lv_args b (as.map (xv G))
  | [], b, i, v, h => by simp [xsl] at h
  | w :: t, b, i, v, h => by
    simp only [List.map_cons, lv_args, xv_cat]
    simp only [xsl, List.flatMap_cons] at h
    by_cases hc : w.category = 2
    · rw [if_pos hc] at h ⊢
      match i, h with
      | 0, h => simp at h; subst h; exact List.mem_cons_self
      | 1, h => simp at h
      | i + 2, h =>
        have h : (xsl t)[i]? = some (some v) := by simpa [xsl] using h
        have := xsl_args G t (b + 2) i v h
        rw [show b + (i + 2) = b + 2 + i by omega]
        exact List.mem_cons_of_mem _ this
    · rw [if_neg hc] at h ⊢
      match i, h with
      | 0, h => simp at h; subst h; exact List.mem_cons_self
      | i + 1, h =>
        have h : (xsl t)[i]? = some (some v) := by simpa [xsl] using h
        have := xsl_args G t (b + 1) i v h
        rw [show b + (i + 1) = b + 1 + i by omega]
        exact List.mem_cons_of_mem _ this
theorem xent_lr (G : xG) {n : Nat} (as : List Value) (h : (xsl as).length ≤ n) : xlr G ((lg_sl (as.map (xv G)) ++ List.replicate (n - (lg_sl (as.map (xv G))).length) Slot.unset).toArray) (xent n as) := by
  have h1 := lv_entry (as.map (xv G)) (n := n) (by rw [xsl_len]; exact h)
  refine ⟨?_, h1.2.1, fun i v hv => ?_⟩
  · rw [h1.1]; simp [xent]; omega
  · refine h1.2.2 (i, xv G v) ?_
    have h2 : (xsl as)[i]? = some (some v) := by
      unfold xent at hv
      by_cases hi : i < (xsl as).length
      · rwa [List.getElem?_append_left hi] at hv
      · rw [List.getElem?_append_right (by omega), List.getElem?_replicate] at hv
        split at hv <;> simp at hv
    simpa using xsl_args G as 0 i v h2
/-! what holds of every state of a run -/
def xStr : List (String × Nat × String) := [("QuakeNet", 346, "there is none such"), ("QuakeNet", 353, "the number is out of its bounds"), ("QuakeNet", 358, "there are as many as there may be"), ("QuakeNet", 366, "TICK is above 0"), ("QuakeNet$Reader", 76, "first  pass   cost   show   if     or     and    not    alive  seen   need   asked  order  undone kin    age    hops   have   charge number "), ("QuakeNet", 369, "the text is wrong"), ("QuakeNetModel", 212, "first"), ("QuakeNetModel", 214, "pass"), ("QuakeNetModel", 216, "cost"), ("QuakeNetModel", 218, "show"), ("QuakeNetModel", 220, "if"), ("QuakeNetModel", 164, "not"), ("QuakeNetModel", 176, "alive"), ("QuakeNetModel", 178, "seen"), ("QuakeNetModel", 180, "need"), ("QuakeNetModel", 182, "asked"), ("QuakeNetModel", 184, "order"), ("QuakeNetModel", 186, "undone"), ("QuakeNetModel", 188, "kin"), ("QuakeNetModel", 190, "age"), ("QuakeNetModel", 192, "hops"), ("QuakeNetModel", 194, "have"), ("QuakeNetModel", 196, "charge"), ("QuakeNetModel", 198, "number"), ("QuakeNetModel", 202, "and"), ("QuakeNetModel", 207, "or")]
def xEx : List String := ["java/lang/IndexOutOfBoundsException", "java/lang/IllegalArgumentException", "java/lang/UnsupportedOperationException", "java/lang/IllegalStateException", "java/util/NoSuchElementException"]
def xTys (G : xG) : List (ClassId × FieldType) := [(G.2.2.1 .int, .int), (G.2.2.1 .byte, .byte), (G.2.2.1 .long, .long), (G.2.2.1 .boolean, .boolean), (G.2.2.1 (.array .int), .array .int)]
/-- the addresses that a run may write -/
def xAd (G : xG) : Nat → Prop := fun q => G.1 ≤ q
def xtb (t : String) : List Int32 := t.toList.map (fun c => Int32.ofNat c.toNat)
def xS (G : xG) (U : State) : Prop :=
  va_K G.2.1 vwCl (xTys G) U ∧ (∀ (k : Nat) (nm : String), xEx[k]? = some nm → U.vm.findClass nm = some (G.2.1.1 (20 + k))) ∧ (∀ a b : Nat, a < 5 → b < 5 → a ≠ b → va_Nc (xEx.getD a "") (xEx.getD b "") U) ∧
  (∀ (i : Nat) (q : String × Nat × String), xStr[i]? = some q → vk_R q.1 q.2.1 q.2.2 (G.2.2.2.1 (i + 1)) U) ∧
  vk_S 26 (xStr.map (fun q => (xtb q.2.2).length)) (xStr.map (fun q => xtb q.2.2)) (fun i => G.2.2.2.1 (i + 1)) (fun i => G.2.2.2.1 (100 + i)) (xAd G) U U.heap ∧
  va_Z "java/lang/String" "COMPACT_STRINGS" "Z" (.int 1) (xAd G) U U.heap ∧
  (va_Z "jdk/internal/util/Preconditions" "SIOOBE_FORMATTER" "Ljava/util/function/BiFunction;" .null (xAd G) U U.heap ∨ va_Z "jdk/internal/util/Preconditions" "SIOOBE_FORMATTER" "Ljava/util/function/BiFunction;" (.ref (G.2.2.2.1 200)) (xAd G) U U.heap) ∧
  vx_Zq Jvm.Bundle.tN "UNASSIGNED_STACK" Jvm.Bundle.steD (xAd G) U U.heap ∧ vx_Zq Jvm.Bundle.tN "SUPPRESSED_SENTINEL" Jvm.Bundle.listD (xAd G) U U.heap ∧
  va_X (G.2.2.2.1 0) G.2.2.2.2.1 G.2.2.2.2.2 U U.heap ∧ G.2.2.2.1 0 < G.1 ∧ G.1 ≤ U.heap.size ∧ (Cond.arrayOver (.array .int)).before #[] U = true
/-- a search among the classes that looks at their kinds alone finds the same in a like machine -/
theorem xidx {u U : Vm} (hvm : u.Alike U) (q : Class → Bool) (hq : ∀ x y : Class, x.kind = y.kind → q x = q y) : U.classes.findIdx? q = u.classes.findIdx? q := by
  have h1 : ∀ vm : Vm, vm.bare.classes.findIdx? q = vm.classes.findIdx? q := by
    intro vm
    unfold Vm.bare
    rw [Array.findIdx?_map]
    refine congrArg (fun q' => Array.findIdx? q' vm.classes) (funext fun x => ?_)
    exact hq _ _ rfl
  have h2 := h1 U
  rw [hvm.bare_eq, h1 u] at h2
  exact h2.symm
theorem xAOA_moved {u U : State} (hvm : u.vm.Alike U.vm) (h : (Cond.arrayOver (.array .int)).before #[] u = true) : (Cond.arrayOver (.array .int)).before #[] U = true := by
  have e1 : ∀ n, U.vm.findClass n = u.vm.findClass n := fun n => hvm.findClass n none
  simp only [Cond.before, Cond.holds, Cond.value, e1] at h ⊢
  cases hq : u.vm.findClass (FieldType.array .int).toString with
  | none => rw [hq] at h; exact h
  | some comp =>
    rw [hq] at h
    simp only [Option.bind_some] at h ⊢
    rw [xidx hvm _ (fun x y hxy => by simp only [hxy])]
    generalize Array.findIdx? _ u.vm.classes = z at h ⊢
    cases z with
    | none => exact h
    | some c =>
      simp only [Option.bind_some] at h ⊢
      cases hk : u.vm.classes[c]? with
      | none => rw [hk] at h; simp at h
      | some k =>
        obtain ⟨k', hk', he⟩ := hvm.2.2 _ _ hk
        have hkind : k'.kind = k.kind := by rw [he]
        rw [hk] at h
        rw [hk']
        simp only [Option.map_some, hkind] at h ⊢
        exact h
/-- in a later state, where nothing old was written -/
theorem xS.go {G : xG} {s U : State} {H : Heap} {locs : List Loc} (h : xS G s) (hW : s.WarmedH U.vm) (hU : U.heap = H) (hS : va_S (xAd G) s.heap H locs) : xS G U := by
  obtain ⟨h1, h2, h3, h4, h5, h6, h7, h8, h9, h10, h11, h12, h13⟩ := h
  have hk : ∀ a : Nat, a < s.heap.size → ¬ xAd G a → U.heap[a]? = s.heap[a]? := fun a ha hA => by rw [hU]; exact hS.2.1 a ha hA
  refine ⟨va_K.moved hW.alike h1, fun k nm hk => by rw [hW.alike.findClass]; exact h2 k nm hk, fun a b ha hb hn => (h3 a b ha hb hn).moved hW.alike, fun i q hq => (h4 i q hq).warm hW, (h5.kept hk).moved hW.alike, (h6.kept hk).moved hW.alike, h7.imp (fun h => (h.kept hk).moved hW.alike) (fun h => (h.kept hk).moved hW.alike), (h8.kept hk).moved hW.alike, (h9.kept hk).moved hW.alike, (h10.kept (hk _ (Nat.lt_of_lt_of_le h11 h12) (fun q => absurd h11 (Nat.not_lt.mpr q)))).moved hW.alike, h11, by rw [hU]; exact Nat.le_trans h12 hS.1, ?_⟩
  exact xAOA_moved hW.alike h13
/-! the judgements -/
def xCM : Nat := 601024
def xSM : Nat := 7293034
def xOut (G : xG) (r : xR) (o : Outcome) : Prop := match r with
  | .inl v => o = .returned (v.map (xv G))
  | .inr i => o = .threw (G.1 + i)
def xEnd (G : xG) (s : State) (n0 k0 : Nat) (Q : xR → xH → Prop) (o : Outcome) (t : State) : Prop :=
  ∃ (r : xR) (P : xH) (L : List Loc) (k n : Nat), Q r P ∧ xOut G r o ∧ xRel G P t.heap ∧ s.WarmedH t.vm ∧ k + n0 = P.1 ∧ n + k0 = P.2.1 ∧ s.sameButNew ({ t with vm := s.vm } : State) L k n ∧ ∀ z ∈ L, xAd G z.base
def xE (G : xG) (l : Launch) (d : Nat) (M : xM) (p : Program) (s : State) (m : MethodId) (args : Array Value) (meth : Method) (c : Code) (R : Room) : Prop :=
  p.tables.exec = Jvm.exec ∧ c.code = M.2.1 ∧ c.maxLocals = M.2.2.1 ∧ meth.sig.returnType = M.2.2.2.1 ∧ meth.locks = false ∧ c.exceptionTable.toList = tableOf M.2.2.2.2 ∧ s.vm.findClass M.1.cls = some m.cls ∧ meth.name = M.1.name ∧
  (∀ w ∈ xWS, w.before args s = true) ∧ xS G s ∧ d ≤ R.frames ∧ 64 * d ≤ R.locals ∧ l.stackTraces = false
def xB (G : xG) (s : State) (R : Room) (n0 k0 : Nat) : Prop := R.cells + n0 = xCM ∧ R.slots + k0 = xSM ∧ s.heap.size = G.1 + n0
def xWd (G : xG) (l : Launch) (d : Nat) (M : xM) (pc : Nat) (L : xL) (st : List Value) (P : xH) (Q : xR → xH → Prop) (p : Program) (e : Env) (s : State) (m : MethodId) (args : Array Value) (below : List Frame) (meth : Method) (c : Code) (R : Room) (n0 k0 : Nat) : Prop :=
  ∀ (H : Heap) (locs : List Loc) (cells slots : Nat) (ls : Array Slot), cells + n0 = P.1 → slots + k0 = P.2.1 → xlr G ls L → L.length = M.2.2.1 → xRel G P H → va_S (xAd G) s.heap H locs →
    W p l e R s m args below meth c H locs cells slots (fun t => ∃ o, t.status = .running ∧ Ended t below o ∧ xEnd G s n0 k0 Q o t) (F0 m pc ls (st.map (xv G)))
/-- from this point of the method's code, with these locals, this stack and this heap, the method comes to an end with Q -/
def Wp (G : xG) (l : Launch) (d : Nat) (M : xM) (pc : Nat) (L : xL) (st : List Value) (P : xH) (Q : xR → xH → Prop) : Prop :=
  ∀ (p : Program) (e : Env) (s : State) (m : MethodId) (args : Array Value) (below : List Frame) (meth : Method) (c : Code) (R : Room) (n0 k0 : Nat), xE G l d M p s m args meth c R → xB G s R n0 k0 →
    xWd G l d M pc L st P Q p e s m args below meth c R n0 k0
def xRm (d : Nat) (P : xH) : Room := { frames := d, cells := xCM - P.1, slots := xSM - P.2.1, locals := 64 * d }
def xPc (G : xG) (as : List Value) (P : xH) : Array Value → State → Prop := fun a U => a = (as.map (xv G)).toArray ∧ xRel G P U.heap ∧ xS G U
/-- the method's contract at these arguments and this heap -/
def Ct (G : xG) (l : Launch) (d : Nat) (M : xM) (as : List Value) (P : xH) (Q : xR → xH → Prop) : Prop :=
  MetFree l M.1 (headSpec xWS (xRm d P)) (xPc G as P) (fun _ _ _ _ _ => True) (fun _ st o t => xEnd G st P.1 P.2.1 Q o t)
theorem Wp.mono {G : xG} {l : Launch} {d : Nat} {M : xM} {pc : Nat} {L : xL} {st : List Value} {P : xH} {Q Q' : xR → xH → Prop} (h : Wp G l d M pc L st P Q) (hq : ∀ r P', Q r P' → Q' r P') : Wp G l d M pc L st P Q' := by
  intro p e s m args below meth c R n0 k0 hE hB H locs cells slots ls h3 h4 h5 h5' h6 h7 T hT X
  obtain ⟨t, a1, o, b1, b2, r, P', L', k, n, c1, c2⟩ := h p e s m args below meth c R n0 k0 hE hB H locs cells slots ls h3 h4 h5 h5' h6 h7 T hT X
  exact ⟨t, a1, o, b1, b2, r, P', L', k, n, hq r P' c1, c2⟩
theorem Ct.mono {G : xG} {l : Launch} {d : Nat} {M : xM} {as : List Value} {P : xH} {Q Q' : xR → xH → Prop} (h : Ct G l d M as P Q) (hq : ∀ r P', Q r P' → Q' r P') : Ct G l d M as P Q' := by
  intro p e ha hc hk s m args below hf happ hP hK
  obtain ⟨n, o, b1, b2, b3, r, P', L', k, n', c1, c2⟩ := h p e ha hc hk s m args below hf happ hP hK
  exact ⟨n, o, b1, b2, b3, r, P', L', k, n', hq r P' c1, c2⟩
/-- a method without handlers, by its body -/
theorem Ct.of {G : xG} {l : Launch} {d : Nat} {y : MethodName} {cc : ByteArray} {maxL : Nat} {ret : Option FieldType} {as : List Value} {P : xH} {Q : xR → xH → Prop} (hl : l.stackTraces = false) (hy : plainName y.cls = true) (hc : Cond.code y cc maxL ret ∈ xWS) (hn : (xsl as).length ≤ maxL)
    (h : Wp G l d (y, cc, maxL, ret, []) 0 (xent maxL as) [] P Q) : Ct G l d (y, cc, maxL, ret, []) as P Q := by
  refine MetFree.of_bodyS (code := cc) (maxLocals := maxL) (ret := ret) hy ?_ ?_
  · intro args s m h hn
    obtain ⟨meth, c, h1, h2, h3, h4, h5, h6, -, -⟩ := Cond.code_spec hn (atoms_spec (ws := xWS) h _ hc)
    exact ⟨meth, c, h1, h2, h3, h4, h5, h6⟩
  · intro p e s m args below meth c s₁ B hml hPc _
    obtain ⟨rfl, hR, hS⟩ := hPc
    have hh0 : s₁.heap = s.heap := by rw [B.state]; rfl
    have hts := atoms_spec (ws := xWS) B.pre
    have htab : c.exceptionTable.toList = tableOf [] := by
      obtain ⟨meth9, c9, h1, h2, -, -, -, -, h7, -⟩ := Cond.code_spec B.named (hts _ hc)
      cases Option.some.inj (h1.symm.trans B.method)
      cases Option.some.inj (h2.symm.trans (Stand.of_body B).code)
      rw [Array.isEmpty_iff.mp h7]
      rfl
    have hE : xE G l d (y, cc, maxL, ret, []) p s m ((as.map (xv G)).toArray) meth c (headSpec xWS (xRm d P)).room :=
      ⟨B.exec, B.bytes, hml, B.returns, B.notSynchronized, htab, findClass_of_methodNamed B.named, (name_of_methodNamed B.named B.method).1, hts, hS, Nat.le_refl _, Nat.le_refl _, hl⟩
    have K := h p e s m ((as.map (xv G)).toArray) below meth c (headSpec xWS (xRm d P)).room P.1 P.2.1 hE ⟨Nat.sub_add_cancel hR.2.2.2.1, Nat.sub_add_cancel hR.2.2.2.2, hR.1⟩ s.heap [] 0 0 _ (Nat.zero_add _) (Nat.zero_add _) (xent_lr G as hn) (by simp [xent]; omega) hR va_S.rf
    rw [← hh0, List.map_nil, ← lg_entry_eq] at K
    obtain ⟨t, a1, o, b1, b2, b3⟩ := K s₁ rfl (Stand.of_body B)
    exact ⟨t, o, a1, b1, b2, b3⟩
