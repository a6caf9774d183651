/-! A throw whose constructor's pool index is any: over the library's words ownAtomsX and its laws chainSX, ctorMessageOffV, athrowLeaves. -/
/-- field f lies in objects of class number c -/
def xn_laid (s : State) (c : Nat) (k : Class) (f : Field) : Prop := k.instanceTypes[f.slot]? = some f.type ∧ ∃ d, Jmm.declares? s.vm f.slot (c + 1) c = some d ∧ d.2.name = f.name
theorem xn_laid.of {args : Array Value} {s : State} {C O nm ds : String} {c c' i : Nat} {k k' : Class} {f : Field} (w : (Cond.lays C O nm ds).before args s = true) (hc : s.vm.findClass C = some c) (hk : s.vm.classes[c]? = some k) (hf : s.fieldFound? O nm ds = some (c', k', i, f)) : xn_laid s c k f :=
  Cond.laysAt (args := args) (first := s) (o := none) (idx := []) hc hk hf w
theorem xn_laid.ne {s : State} {c : Nat} {k : Class} {f g : Field} (a : xn_laid s c k f) (b : xn_laid s c k g) {x y : String} (hf : f.name = x) (hg : g.name = y) (h : x ≠ y) : f.slot ≠ g.slot := by
  obtain ⟨-, d1, a1, a2⟩ := a
  obtain ⟨-, d2, b1, b2⟩ := b
  refine Cond.laysApart a1 b1 a2 b2 ?_
  rw [hf, hg]
  exact h
theorem xn_laid.takes {s : State} {c : Nat} {k : Class} {f : Field} (a : xn_laid s c k f) (hk : s.vm.classes[c]? = some k) (ho : k.kind = .ordinary) {t : FieldType} (ht : f.type = t) {v : Value} (hv : fits t v = true) : Takes s (freshCell c k) f v :=
  Takes.of_laid hk ho a.1 (by rw [ht]; exact hv)
/-- the method itself is chosen -/
theorem xn_sel {l : Launch} {e : Env} (ha : l.admits e) {args : Array Value} {s : State} {C : String} {c : Nat} {t : MethodName} {m : MethodId} (w : (Cond.selects C t t).before args s = true) (hc : s.vm.findClass C = some c) (hm : s.methodNamed? t = some m)
    (hn : t.cls ≠ "java/lang/invoke/MethodHandle" ∧ t.cls ≠ "java/lang/invoke/VarHandle") : selectMethod e.platform s.vm c m = .method m := by
  rw [Launch.admits_selectMethod ha]
  obtain ⟨c1, r1, m1, e1, e2, e3, e4, -⟩ := Cond.selects_spec (args := args) (first := s) (o := none) (idx := []) w
  rw [hc] at e1
  rw [State.methodFound?_of_named hm hn] at e2
  rw [hm] at e3
  cases e1
  cases e2
  cases e3
  exact e4
/-- three stores into other slots leave a slot's value -/
theorem xn_keep {T : ThrowableT} {x : Cell} {a : Addr} {u v : RefV} {j n : Nat} {z : Value} (h : x.slots[j]? = some z) (h1 : T.fCause.slot ≠ j) (h2 : T.fStack.slot ≠ j) (h3 : T.fSupp.slot ≠ j) : ((preparedCellV T x a u v).withEntry n).slots[j]? = some z := by
  simp [preparedCellV, Cell.setSlot, Cell.withEntry, Array.getElem?_setIfInBounds, h1, h2, h3, h]
section XNC
variable {p : Program} {l : Launch} {e : Env} {R : Room} {s : State} {m : MethodId} {args : Array Value} {below : List Frame} {meth : Method} {c : Code} {W : State} {cells slots : Nat}
set_option maxHeartbeats 1000000 in
/-- the constructor's call alone: behind it the new cell is of its class, and nothing else has changed -/
theorem xn_made (X : Stand p l e R s m args below meth c W [] cells slots) (hexec : p.tables.exec = Jvm.exec) (htr : e.platform.stackTraces = false) {own C : String} {names : List String} {ic ix : Nat} {rx : ByteArray}
    (x0 : decode rx 0 = .ok (.aload_n 0, 1)) (x1 : decode rx 1 = .ok (.aload_n 1, 1)) (x2 : decode rx 2 = .ok (.invokespecial ix, 3)) (x5 : decode rx 5 = .ok (.return_, 1))
    (hown : s.vm.findClass own = some m.cls) (hC : Jvm.Bundle.fit C = true) (hnames : ∀ n ∈ names, Jvm.Bundle.fit n = true) (hw : ∀ w ∈ Jvm.Bundle.ownAtomsX own ic C ix rx names, w.before args s = true)
    {a : Addr} {cX : ClassId} {kX : Class} (hcX : s.vm.findClass C = some cX) (hkX : s.vm.classes[cX]? = some kX) (hcell : W.heap[a]? = some (freshCell cX kX)) (hnew : s.heap.size ≤ a) {sa : Addr}
    {pc : Nat} {ls : Array Slot} (hls : ls.size = c.maxLocals) (hd : decode c.code pc = .ok (.invokespecial ic, 3)) (hRf : names.length + 3 < R.frames) (hRl : 13 * (names.length + 1) + 43 ≤ R.locals) :
    ∃ (vm' : Vm) (ce : Cell) (lo : List Loc), ce.cls = cX ∧ ce.vm = .none ∧ (∀ y ∈ lo, y.base = a) ∧ Stand p l e R s m args below meth c ((W.setVm vm').setCell a ce) lo cells slots ∧
      ∀ target, Steps p.tables e below (((W.setVm vm').setCell a ce).setTop { method := m, pc := pc + 3, locals := ls, stack := [.ref a], locked := none }) target →
        Steps p.tables e below (W.setTop { method := m, pc := pc, locals := ls, stack := [.ref sa, .ref a, .ref a], locked := none }) target := by
  have hpf := X.admits.platform
  have hma : e.platform.magicAccessors = ({} : Platform).magicAccessors := by rw [hpf]
  have inA : ∀ {w : Cond}, w ∈ Jvm.Bundle.throwableAtoms → w ∈ Jvm.Bundle.ownAtomsX own ic C ix rx names := fun h => List.mem_append_left _ (List.mem_append_left _ (List.mem_append_left _ h))
  have inB : ∀ {w : Cond}, w ∈ Jvm.Bundle.throwableSAtoms → w ∈ Jvm.Bundle.ownAtomsX own ic C ix rx names := fun h => List.mem_append_left _ (List.mem_append_left _ (List.mem_append_right _ h))
  have inC : ∀ {w : Cond}, w ∈ Jvm.Bundle.chainSAtomsX C ix rx names → w ∈ Jvm.Bundle.ownAtomsX own ic C ix rx names := fun h => List.mem_append_left _ (List.mem_append_right _ h)
  have wl : ∀ nm ds, Cond.lays C Jvm.Bundle.tN nm ds ∈ Jvm.Bundle.ownAtomsX own ic C ix rx names → ∀ {c' i : Nat} {k' : Class} {f : Field}, s.fieldFound? Jvm.Bundle.tN nm ds = some (c', k', i, f) → xn_laid s cX kX f :=
    fun nm ds h _ _ _ _ hf => xn_laid.of (hw _ h) hcX hkX hf
  have hord : kX.kind = .ordinary := by
    obtain ⟨c1, k1, e1, e2, e3, -⟩ := Cond.instantiable_spec (args := args) (first := s) (o := none) (idx := []) (hw (.instantiable C 6) (by simp [Jvm.Bundle.ownAtomsX]))
    rw [hcX] at e1
    cases e1
    rw [hkX] at e2
    cases e2
    exact e3
  -- Throwable, its constructor with a text, and the chain above C
  obtain ⟨T, Z0, LT, -, Y⟩ := ThrowableC.of_atoms (args := args) (s := s) (pl := e.platform) (by rw [hpf]) (by rw [hpf]) hma (fun w h => hw w (inA h))
  obtain ⟨Z, M, LZ, LM, hZ⟩ := Init0T.ofS_atoms (args := args) hma LT Y (fun w h => hw w (inB h))
  obtain ⟨P1, Pr, hlen, LP, LPr, hP, hup, hups⟩ := Jvm.Bundle.chainSX (args := args) hma hZ x0 x1 x2 x5 names C hC hnames (fun w h => hw w (inC h))
  have hPc : P1.m.cls = cX := by
    have h9 := findClass_of_methodNamed hP
    exact Option.some.inj (h9.symm.trans hcX)
  -- the fields in C's objects
  obtain ⟨iM, hM⟩ := Y.msg
  have nM : T.fMsg.name = "detailMessage" := (State.fieldFound?_type hM (t := .object "java/lang/String") (by decide +kernel)).1
  have lC := wl "cause" "Ljava/lang/Throwable;" (by simp [Jvm.Bundle.ownAtomsX]) Y.cause
  have lS := wl "stackTrace" Jvm.Bundle.steD (by simp [Jvm.Bundle.ownAtomsX]) Y.stack
  have lP := wl "suppressedExceptions" Jvm.Bundle.listD (by simp [Jvm.Bundle.ownAtomsX]) Y.supp
  have lM := wl "detailMessage" "Ljava/lang/String;" (by simp [Jvm.Bundle.ownAtomsX]) hM
  obtain ⟨cb, ib, fb, b1, b2, b3, b4, -, b6, b7, b8⟩ := Cond.ownField (args := args) (first := s) (o := none) (idx := []) (t := .object "java/lang/Object") Y.found LT.cls (by decide +kernel)
    (hw (.fieldLink Jvm.Bundle.tN 198 Jvm.Bundle.tN "backtrace" "Ljava/lang/Object;") (by simp [Jvm.Bundle.ownAtomsX])) (hw (.lays Jvm.Bundle.tN Jvm.Bundle.tN "backtrace" "Ljava/lang/Object;") (by simp [Jvm.Bundle.ownAtomsX])) e.platform hma
  have lB := wl "backtrace" "Ljava/lang/Object;" (by simp [Jvm.Bundle.ownAtomsX]) b8
  have hnull : (freshCell cX kX).slots[fb.slot]? = some .null := by
    rw [fresh_default lB.1, b7]
    rfl
  -- Throwable's statics are old: they stand as they stood
  obtain ⟨cs, hcs, hst⟩ := Y.statics
  have hltS : T.aS < s.heap.size := (Array.getElem?_eq_some_iff.mp hcs).1
  have hcsW : W.heap[T.aS]? = some cs := by
    rw [← hcs]
    exact (vx_frame (U := W) X.same).2 _ hltS (fun z hz => nomatch hz)
  have hcsk : cs.vm ≠ .unknown := by
    intro h9
    rw [h9] at hst
    cases hst
  obtain ⟨u, hu⟩ := Cond.staticRefV (args := args) (first := s) (o := none) (idx := []) Y.unassigned LT.unassignedStatic LT.statics hcs hst (hw (.isRef (.static Jvm.Bundle.tN "UNASSIGNED_STACK" Jvm.Bundle.steD)) (by simp [Jvm.Bundle.ownAtomsX]))
  obtain ⟨v, hv⟩ := Cond.staticRefV (args := args) (first := s) (o := none) (idx := []) Y.sentinel LT.sentinelStatic LT.statics hcs hst (hw (.isRef (.static Jvm.Bundle.tN "SUPPRESSED_SENTINEL" Jvm.Bundle.listD)) (by simp [Jvm.Bundle.ownAtomsX]))
  -- the call
  obtain ⟨tm, me, cd, kk, vm1, r1, -, -, -, -, -, -, -, r9, call⟩ := Steps.initColdS (tb := p.tables) (e := e) (below := below) (args := args) X.here hexec X.warmed hma hown (t := Jvm.Bundle.initS C) rfl rfl (Jvm.Bundle.fit_spec hC).2
    (hw (.methodLink own ic (Jvm.Bundle.initS C)) (by simp [Jvm.Bundle.ownAtomsX]))
    (hw (.instanceMethod (Jvm.Bundle.initS C)) (inC (by cases names <;> simp [Jvm.Bundle.chainSAtomsX, Jvm.Bundle.passSAtoms])))
    (hw (.code (Jvm.Bundle.initS C) rx 2 none) (inC (by cases names <;> simp [Jvm.Bundle.chainSAtomsX, Jvm.Bundle.passSAtoms])))
    (f := { method := m, pc := pc, locals := ls, stack := [.ref sa, .ref a, .ref a], locked := none }) rfl (a := a) (msg := .ref sa) (rest := [.ref a]) rfl hd
  have htm : tm = P1.m := Option.some.inj (r1.symm.trans hP)
  subst htm
  have hself : (freshCell cX kX).cls = cX := rfl
  obtain ⟨vm2, X2, ret⟩ := (X.noted r9).ctorMessageOffV hexec (g := { method := m, pc := pc, locals := ls, stack := [.ref a], locked := none }) rfl hls T LT Z LZ M LM (P1 :: Pr)
    (List.forall_mem_cons.mpr ⟨LP, LPr⟩) ⟨hup, hups⟩ (u0 := u) (sen := v) (self := a) (msg := .ref sa) rfl (cell := freshCell cX kX) (cellS := cs) hcell (fun k => by simp) (by simp) rfl rfl
    (xn_sel X.admits (hw (.selects C Jvm.Bundle.tFill0 Jvm.Bundle.tFill0) (by simp [Jvm.Bundle.ownAtomsX])) hcX Y.fill0 (by decide))
    (xn_sel X.admits (hw (.selects C Jvm.Bundle.tFill Jvm.Bundle.tFill) (by simp [Jvm.Bundle.ownAtomsX])) hcX Y.fill (by decide))
    hcsW (Nat.ne_of_lt (Nat.lt_of_lt_of_le hltS hnew)) hcsk hu hv
    (lC.takes hkX hord Y.causeType rfl) (lS.takes hkX hord Y.stackType (fits_refV_array _ u)) (lP.takes hkX hord Y.suppType (fits_refV_object _ v)) (lM.takes hkX hord Y.msgType rfl) Y.objLocals
    ⟨⟨cb, ib, fb⟩, ⟨b1, b2, b3, b4⟩, xn_keep hnull (lC.ne lB Y.causeName b6 (by decide)) (lS.ne lB Y.stackName b6 (by decide)) (lP.ne lB Y.suppName b6 (by decide)), fun _ _ => rfl⟩ htr [] hd
    (by rw [List.length_cons, hlen]; omega)
    (by rw [List.length_cons, hlen]; simp only [List.map_cons, List.map_nil, List.sum_cons, List.sum_nil, JFrame.monitorRoom]; show _ + (1 + 0) + _ ≤ _; simp; omega)
  refine ⟨vm2, _, _, ?_, ?_, ?_, X2, fun target ht => call target fun acts => ?_⟩
  · rfl
  · rfl
  · intro y hy
    simp only [List.nil_append, List.mem_cons, List.not_mem_nil, or_false] at hy
    rcases hy with rfl | rfl | rfl | rfl | rfl <;> rfl
  · rw [doInvoke_state]
    exact ret target ht
end XNC
section XN
variable {G : xG} {l : Launch} {d : Nat} {M : xM} {pc : Nat} {L : xL} {st : List Value} {P : xH} {Q : xR → xH → Prop}
theorem x_throwX {k i ik is ic ix : Nat} {rx : ByteArray} {cls text : String} {names : List String} (x0 : decode rx 0 = .ok (.aload_n 0, 1)) (x1 : decode rx 1 = .ok (.aload_n 1, 1)) (x2 : decode rx 2 = .ok (.invokespecial ix, 3)) (x5 : decode rx 5 = .ok (.return_, 1)) (hk : xEx[k]? = some cls) (hi : xStr[i]? = some (M.1.cls, is, text)) (hhh : M.2.2.2.2 = []) (hcls : Jvm.Bundle.fit cls = true) (hnames : ∀ n ∈ names, Jvm.Bundle.fit n = true)
    (w1 : Cond.classLink M.1.cls ik cls ∈ xWS) (w2 : Cond.initialized cls ∈ xWS) (w3 : ∀ w ∈ (Jvm.Bundle.ownAtomsX M.1.cls ic cls ix rx names).filter vx_no, w ∈ xWS)
    (d0 : decode M.2.1 pc = .ok (.new ik, 3)) (d3 : decode M.2.1 (pc + 3) = .ok (.dup, 1)) (d4 : decode M.2.1 (pc + 4) = .ok (.ldc_w is, 3)) (d6 : decode M.2.1 (pc + 7) = .ok (.invokespecial ic, 3)) (d9 : decode M.2.1 (pc + 10) = .ok (.athrow, 1))
    (hdf : names.length + 3 < d) (hdl : 13 * (names.length + 1) + 43 ≤ 64 * d) (r1 : P.1 + 1 ≤ 601024) (r2 : P.2.1 + 6 ≤ 7293034) (K : Q (.inr P.1) (xnew P 6 (.inr (20 + k, [])))) : Wp G l d M pc L [] P Q := by
  intro p e s m args below meth c R n0 k0 hE hB H locs cells slots ls h3 h4 h5 h6 h7 h8
  obtain ⟨hexec, hb, hml, hr, hlocks, htb, hown, hnm, hts, hS, hRf, hRl, hl⟩ := hE
  obtain ⟨b1, b2, b3⟩ := hB
  have b1 : R.cells + n0 = 601024 := b1
  have b2 : R.slots + k0 = 7293034 := b2
  have hout : ∀ x ∈ c.exceptionTable.toList, covers x (pc + 10) = false := by
    rw [htb, hhh]; intro x hx; cases hx
  have hsz : H.size = G.1 + P.1 := h7.1
  intro T hT X
  have htr : e.platform.stackTraces = false := (show e.platform.stackTraces = l.stackTraces by rw [X.admits.platform]).trans hl
  have Y := vx_rebase X (R' := { frames := R.frames, locals := R.locals, cells := 1, slots := 6 }) (Nat.le_refl _) (Nat.le_refl _) (show cells + 1 ≤ R.cells by omega) (show slots + 6 ≤ R.slots by omega)
  obtain ⟨s', hA⟩ : ∃ z, z = (T.setVm s.vm).setFrames (.invoking m args :: below) := ⟨_, rfl⟩
  rw [← hA] at Y
  have hvm : s'.vm = s.vm := by rw [hA]; rfl
  have hhp : s'.heap = H := by rw [hA]; exact hT
  have hW0 : s.WarmedH s'.vm := by rw [hvm]; exact State.WarmedH.refl s
  have hS' : xS G s' := hS.go hW0 hhp h8
  have hat' : ∀ w ∈ (Jvm.Bundle.ownAtomsX M.1.cls ic cls ix rx names).filter vx_no, w.before args s' = true := fun w hw => xWS_at hW0 hts w (w3 w hw)
  obtain ⟨-, e2, -, e4, -, -, -, hU', hN', -⟩ := hS'
  have h : ∀ w ∈ Jvm.Bundle.ownAtomsX M.1.cls ic cls ix rx names, w.before args s' = true := vx_own hat' (vx_isRefq hU'.1) (vx_isRefq hN'.1) hU'.2.word hN'.2.word
  have hown' : s'.vm.findClass M.1.cls = some m.cls := by rw [hvm]; exact hown
  have hins : (Cond.instantiable cls 6).before args s' = true := h _ (by simp [Jvm.Bundle.ownAtomsX])
  obtain ⟨vm₁, cX, kX, hfX, hkX, -, -, X₁, st1⟩ := Y.newCold hexec (own := M.1.cls) (C := cls) (index := ik) (n := 6) hown' (xWS_at hW0 hts _ w1) hins (xWS_at hW0 hts _ w2)
    (g := F0 m pc ls []) rfl (by rw [hb]; exact d0) (Nat.le_refl _) (Nat.le_refl _)
  generalize hT1 : (T.setVm vm₁).pushCell { cls := cX, slots := kX.instanceTypes.map defaultValue, vm := .none } = T1 at X₁ st1
  have hcat : (Value.ref T.heap.size).category = 1 := rfl
  have hcellA : T1.heap[T.heap.size]? = some (freshCell cX kX) := by rw [← hT1]; exact State.heap_pushCell_size _ _
  have d3' : decode c.code (pc + 3) = .ok (.dup, 1) := by rw [hb]; exact d3
  have d4' : decode c.code (pc + 4) = .ok (.ldc_w is, 3) := by rw [hb]; exact d4
  have hstr' : vk_R M.1.cls is text (G.2.2.2.1 (i + 1)) s' := e4 i _ hi
  obtain ⟨vm2, ce, lo, g1, g2, g3, X₂, st2⟩ := xn_made X₁ hexec htr (own := M.1.cls) (C := cls) (names := names) (ic := ic) x0 x1 x2 x5 hown' hcls hnames h hfX hkX hcellA (by rw [hhp, hT]; exact Nat.le_refl _) (sa := G.2.2.2.1 (i + 1))
    (pc := pc + 7) (ls := ls) (h5.1.trans (h6.trans hml.symm)) (by rw [hb]; exact d6) (show names.length + 3 < R.frames by omega) (show _ ≤ R.locals by omega)
  obtain ⟨hwalk, hrun, hend, hW, hsame0⟩ := X₂.athrowLeaves hexec (g := { method := m, pc := pc + 10, locals := ls, stack := [.ref T.heap.size], locked := none }) rfl rfl rfl hout (a := T.heap.size) (rest := []) rfl (by rw [hb]; exact d9) hlocks
  have hsteps := st2 _ hwalk
  have hlt1 : T.heap.size < (T1.setVm vm2).heap.size := (Array.getElem?_eq_some_iff.mp hcellA).1
  have hce0 := heapAt_setCell_self (s := T1.setVm vm2) ce hlt1
  obtain ⟨U, hU⟩ : ∃ z, z = ((T1.setVm vm2).setCell T.heap.size ce).setFrames (.throwing T.heap.size :: below) := ⟨_, rfl⟩
  rw [← hU] at hwalk hrun hend hW hsame0 hsteps
  have hce : U.heap[T.heap.size]? = some ce := by rw [hU]; exact hce0
  have hsame := hsame0.weaken (l' := []) (fun y hy hlt => absurd hlt (by rw [g3 y hy, hhp, hT]; exact Nat.lt_irrefl _)) (Nat.le_refl _) (Nat.le_refl _)
  obtain ⟨f1, f2⟩ := vx_frame hsame
  rw [hhp] at f1 f2
  have hTs : T.heap.size = H.size := by rw [hT]
  have hUs : U.heap.size = H.size + 1 := by
    have g1 : U.heap.size ≤ s'.heap.size + (0 + 1) := hsame.2.2.1
    have g2 : T.heap.size < U.heap.size := (Array.getElem?_eq_some_iff.mp hce).1
    rw [hhp] at g1
    omega
  have hWs : s.WarmedH U.vm := State.WarmedH.trans hW0 hW
  have hcl : s.vm.findClass cls = some ce.cls := by
    rw [g1]
    rw [hvm] at hfX
    exact hfX
  have hall : s.sameButNew ({ U with vm := s.vm } : State) locs (cells + 1) (slots + 6) := by
    subst hA
    obtain ⟨e1, e2⟩ := hsame
    rw [State.setFrames_setFrames] at e1
    have h2 : (T.setVm s.vm).sameButNew ({ U with vm := s.vm } : State) [] (0 + 1) (0 + 6) := ⟨e1, e2⟩
    have h3 := X.same.trans h2
    rw [List.append_nil] at h3
    exact h3.mono (by omega) (by omega)
  have hid : ce.cls = G.2.1.1 (20 + k) := by
    have h9 := e2 k cls hk
    rw [hvm] at h9
    exact Option.some.inj (hcl.symm.trans h9)
  have hrel : xRel G (xnew P 6 (.inr (20 + k, []))) U.heap := by
    refine h7.new r1 r2 hUs (fun q hq => f2 q hq (fun z hz => nomatch hz)) ?_
    have hN0 : xN (20 + k) = 0 := by unfold xN; rw [List.getElem?_eq_none (by show 12 ≤ _; omega)]
    refine ⟨ce, by rw [← hsz, ← hTs]; exact hce, hid, g2, fun j hj => ?_⟩
    have hj : j < xN (20 + k) := hj
    omega
  refine ⟨U, ?_, .threw T.heap.size, hrun, hend, .inr P.1, _, locs, cells + 1, slots + 6, K, ?_, hrel, hWs, ?_, ?_, hall, h8.2.2⟩
  · refine st1 _ ?_
    show Steps p.tables e below (T1.setTop { method := m, pc := pc + 3, locals := ls, stack := .ref T.heap.size :: [], locked := none }) _
    jvm_step X₁.here [X₁.here.top, hexec, d3', Value.category]
    exact X₁.ldcStringW hexec (own := M.1.cls) (text := text) (index := is) (a := G.2.2.2.1 (i + 1)) hown' hstr'.1 hstr'.2
      (g := { method := m, pc := pc + 4, locals := ls, stack := .ref T.heap.size :: .ref T.heap.size :: [], locked := none }) rfl d4' _ hsteps
  · show Outcome.threw _ = .threw _
    rw [hTs, hsz]
  · show cells + 1 + n0 = P.1 + 1
    omega
  · show slots + 6 + k0 = P.2.1 + 6
    omega
end XN
def xn_b : ByteArray := ⟨#[0x2a, 0x2b, 0xb7, 0x00, 0x0d, 0xb1]⟩
theorem xn_words : ∀ w ∈ (Jvm.Bundle.ownAtomsX RX10 363 "java/util/NoSuchElementException" 13 xn_b ["java/lang/RuntimeException", "java/lang/Exception"]).filter vx_no, w ∈ xWS := fun w hw => List.mem_filter.mpr ((by decide +kernel : ∀ w ∈ (Jvm.Bundle.ownAtomsX RX10 363 "java/util/NoSuchElementException" 13 xn_b ["java/lang/RuntimeException", "java/lang/Exception"]).filter vx_no, w ∈ lw_tbl ∧ xgw w = true) w hw)
