def xdef (ci : Nat) : List Value := (List.range (xN ci)).map (fun k => defaultValue (xTy ci k))
theorem xv_def (G : xG) (ty : FieldType) : xv G (defaultValue ty) = defaultValue ty := by cases ty <;> rfl
theorem xdef_V (G : xG) (ci : Nat) : ∀ j, j < xN ci → defaultValue (xTy ci j) = vp_V ((xdef ci).map (xv G)) j := by
  intro j hj
  simp [vp_V, xdef, hj, xv_def]
section XN
variable {G : xG} {l : Launch} {d : Nat} {M : xM} {pc : Nat} {L : xL} {st : List Value} {P : xH} {Q : xR → xH → Prop}
theorem x_new {ci idx : Nat} (hci : ci < 12) (hd : decode M.2.1 pc = .ok (.new idx, 3)) (w1 : Cond.classLink M.1.cls idx (xNm ci) ∈ xWS) (w2 : Cond.instantiable (xNm ci) (xN ci) ∈ xWS) (w3 : Cond.initialized (xNm ci) ∈ xWS) (hok : xClOk ci) (r1 : P.1 + 1 ≤ 601024) (r2 : P.2.1 + xN ci ≤ 7293034)
    (K : Wp G l d M (pc + 3) L (.ref P.1 :: st) (xnew P (xN ci) (.inr (ci, xdef ci))) Q) : Wp G l d M pc L st P Q := by
  intro p e s m args below meth c R n0 k0 hE hB H locs cells slots ls h3 h4 h5 h6 h7 h8
  have K := fun H1 => K p e s m args below meth c R n0 k0 hE hB H1 locs (cells + 1) (slots + xN ci) ls (by show cells + 1 + n0 = P.1 + 1; omega) (by show slots + xN ci + k0 = P.2.1 + xN ci; omega) h5 h6
  obtain ⟨hx, hb, hml, hr, hlk, htb, hown, hnm, hts, hS, -⟩ := hE
  obtain ⟨b1, b2, b3⟩ := hB
  have hKn := hS.1.1 ci _ (xCl_at hci)
  have b1 : R.cells + n0 = 601024 := b1
  have b2 : R.slots + k0 = 7293034 := b2
  have hsz : H.size = G.1 + P.1 := h7.1
  refine W.newcK (h := G.1 + P.1) hx hb hown (hts _ w1) (hts _ w2) (hts _ w3) rfl hd (by omega) (by omega) hKn.2.1 hsz fun H1 kC hkC e1 z1 o1 => ?_
  refine K H1 (h7.new r1 r2 (by rw [z1, hsz]) (fun q hq => o1 q (by omega)) ?_) ⟨Nat.le_trans h8.1 (by omega), fun x q1 q2 => (o1 x (by have := h8.1; omega)).trans (h8.2.1 x q1 q2), h8.2.2⟩
  exact (u_born (xTy ci) hts hok.1 hKn hkC e1 hok.2.1).to (xdef_V G ci)
/-- an array of ints, bytes, booleans or longs -/
theorem x_newa {at0 : ArrayType} {ty : FieldType} {n : Int32} {t N : Nat} {z : (Nat → Int32) ⊕ (Nat → Int64) ⊕ (Nat → Option Nat)} (hty : newarray.typeOf at0 = ty) (ht : ∀ G : xG, (xTys G)[t]? = some (G.2.2.1 ty, ty)) (hz : ∀ G : xG, xarr G ty (N, z) = arrV (G.2.2.1 ty) N (fun _ => defaultValue ty)) (hra : ∀ (U : State) (cA : ClassId), va_RA U cA ty → U.vm.findClass ("[" ++ ty.toString) = some cA)
    (hd : decode M.2.1 pc = .ok (.newarray at0, 2)) (w : Cond.arrayClass ty ∈ xWS) (hn : ¬ n < 0) (hN : n.toNatClampNeg = N) (hby : N * componentBytes ty ≤ 536870912) (r1 : P.1 + 1 ≤ 601024) (r2 : P.2.1 + N ≤ 7293034)
    (K : Wp G l d M (pc + 2) L (.ref P.1 :: st) (xnew P N (.inl (ty, N, z))) Q) : Wp G l d M pc L (.int n :: st) P Q := by
  subst hty
  intro p e s m args below meth c R n0 k0 hE hB H locs cells slots ls h3 h4 h5 h6 h7 h8
  have K := fun H1 => K p e s m args below meth c R n0 k0 hE hB H1 locs (cells + 1) (slots + N) ls (by show cells + 1 + n0 = P.1 + 1; omega) (by show slots + N + k0 = P.2.1 + N; omega) h5 h6
  obtain ⟨hx, hb, hml, hr, hlk, htb, hown, hnm, hts, hS, -⟩ := hE
  obtain ⟨b1, b2, b3⟩ := hB
  have b1 : R.cells + n0 = 601024 := b1
  have b2 : R.slots + k0 = 7293034 := b2
  have hsz : H.size = G.1 + P.1 := h7.1
  refine va_newaK (h := G.1 + P.1) hx hb (hts _ w) rfl hd rfl hn hN hby (by omega) (by omega) hsz fun H1 cA e1 z1 o1 hAr hNm => ?_
  have hcA : cA = G.2.2.1 (newarray.typeOf at0) := Option.some.inj (hNm.symm.trans (hra s _ (hS.1.2 t _ (ht G)).2))
  refine K H1 (h7.new r1 r2 (by rw [z1, hsz]) (fun q hq => o1 q (by omega)) ?_) ⟨Nat.le_trans h8.1 (by omega), fun x q1 q2 => (o1 x (by have := h8.1; omega)).trans (h8.2.1 x q1 q2), h8.2.2⟩
  show H1[G.1 + P.1]? = some (xarr G _ _)
  rw [e1, hz G, hcA]
theorem x_newI {n : Int32} (N : Nat) (hd : decode M.2.1 pc = .ok (.newarray .int, 2)) (w : Cond.arrayClass .int ∈ xWS) (hn : ¬ n < 0) (hN : n.toNatClampNeg = N) (hby : N * 4 ≤ 536870912) (r1 : P.1 + 1 ≤ 601024) (r2 : P.2.1 + N ≤ 7293034)
    (K : Wp G l d M (pc + 2) L (.ref P.1 :: st) (xnew P N (.inl (.int, N, .inl (fun _ => 0)))) Q) : Wp G l d M pc L (.int n :: st) P Q :=
  x_newa (at0 := .int) (ty := .int) (t := 0) rfl (fun _ => rfl) (fun _ => rfl) (fun _ _ h => h) hd w hn hN hby r1 r2 K
theorem x_newB {n : Int32} (N : Nat) (hd : decode M.2.1 pc = .ok (.newarray .byte, 2)) (w : Cond.arrayClass .byte ∈ xWS) (hn : ¬ n < 0) (hN : n.toNatClampNeg = N) (hby : N * 1 ≤ 536870912) (r1 : P.1 + 1 ≤ 601024) (r2 : P.2.1 + N ≤ 7293034)
    (K : Wp G l d M (pc + 2) L (.ref P.1 :: st) (xnew P N (.inl (.byte, N, .inl (fun _ => 0)))) Q) : Wp G l d M pc L (.int n :: st) P Q :=
  x_newa (at0 := .byte) (ty := .byte) (t := 1) rfl (fun _ => rfl) (fun _ => rfl) (fun _ _ h => h) hd w hn hN hby r1 r2 K
theorem x_newJ {n : Int32} (N : Nat) (hd : decode M.2.1 pc = .ok (.newarray .long, 2)) (w : Cond.arrayClass .long ∈ xWS) (hn : ¬ n < 0) (hN : n.toNatClampNeg = N) (hby : N * 8 ≤ 536870912) (r1 : P.1 + 1 ≤ 601024) (r2 : P.2.1 + N ≤ 7293034)
    (K : Wp G l d M (pc + 2) L (.ref P.1 :: st) (xnew P N (.inl (.long, N, .inr (.inl (fun _ => 0))))) Q) : Wp G l d M pc L (.int n :: st) P Q :=
  x_newa (at0 := .long) (ty := .long) (t := 2) rfl (fun _ => rfl) (fun _ => rfl) (fun _ _ h => h) hd w hn hN hby r1 r2 K
theorem x_newZ {n : Int32} (N : Nat) (hd : decode M.2.1 pc = .ok (.newarray .boolean, 2)) (w : Cond.arrayClass .boolean ∈ xWS) (hn : ¬ n < 0) (hN : n.toNatClampNeg = N) (hby : N * 1 ≤ 536870912) (r1 : P.1 + 1 ≤ 601024) (r2 : P.2.1 + N ≤ 7293034)
    (K : Wp G l d M (pc + 2) L (.ref P.1 :: st) (xnew P N (.inl (.boolean, N, .inl (fun _ => 0)))) Q) : Wp G l d M pc L (.int n :: st) P Q :=
  x_newa (at0 := .boolean) (ty := .boolean) (t := 3) rfl (fun _ => rfl) (fun _ => rfl) (fun _ _ h => h) hd w hn hN hby r1 r2 K
/-! returns -/
theorem x_ret (hr : M.2.2.2.1 = none) (hd : decode M.2.1 pc = .ok (.return_, 1)) (K : Q (.inl none) P) : Wp G l d M pc L [] P Q := by
  intro p e s m args below meth c R n0 k0 hE hB H locs cells slots ls h3 h4 h5 h6 h7 h8
  obtain ⟨hx, hb, hml, hr0, hlk, -⟩ := hE
  have h := W.vret (p := p) (l := l) (e := e) (R := R) (s := s) (m := m) (args := args) (below := below) (meth := meth) (c := c) (H := H) (locs := locs) (cells := cells) (slots := slots) (ls := ls) (Qc := fun _ _ o t => o = .returned none ∧ t.heap = H) (free := xAd G) hx hb (hr0.trans hr) (fun t ht hW => ⟨rfl, ht⟩) h8.2.2 hd hlk
  intro T hT X
  obtain ⟨t, a1, o, b1, b2, ⟨rfl, b3⟩, Ls, ⟨-, b5, b6⟩, b7⟩ := h T hT X
  exact ⟨t, a1, _, b1, b2, .inl none, P, Ls, cells, slots, K, rfl, by rw [b3]; exact h7, b5, h3, h4, b6, b7⟩
theorem x_iret {v : Int32} (ty : FieldType) (hr : M.2.2.2.1 = some ty) (hn : narrow ty (.int v) = .int v) (hd : decode M.2.1 pc = .ok (.ireturn, 1)) (K : Q (.inl (some (.int v))) P) : Wp G l d M pc L [.int v] P Q := by
  intro p e s m args below meth c R n0 k0 hE hB H locs cells slots ls h3 h4 h5 h6 h7 h8
  obtain ⟨hx, hb, hml, hr0, hlk, -⟩ := hE
  have h := W.zret (p := p) (l := l) (e := e) (R := R) (s := s) (m := m) (args := args) (below := below) (meth := meth) (c := c) (H := H) (locs := locs) (cells := cells) (slots := slots) (ls := ls) (Qc := fun _ _ o t => o = .returned (some (.int v)) ∧ t.heap = H) (free := xAd G) hx hb (hr0.trans hr) hn (fun t ht hW => ⟨rfl, ht⟩) h8.2.2 hd hlk
  intro T hT X
  obtain ⟨t, a1, o, b1, b2, ⟨rfl, b3⟩, Ls, ⟨-, b5, b6⟩, b7⟩ := h T hT X
  exact ⟨t, a1, _, b1, b2, .inl (some (.int v)), P, Ls, cells, slots, K, rfl, by rw [b3]; exact h7, b5, h3, h4, b6, b7⟩
/-- 'throw new E("text")' -/
theorem x_throw {k i ik is ic : Nat} {cls text : String} {names : List String} (hk : xEx[k]? = some cls) (hi : xStr[i]? = some (M.1.cls, is, text)) (hhh : M.2.2.2.2 = []) (hcls : Jvm.Bundle.fit cls = true) (hnames : ∀ n ∈ names, Jvm.Bundle.fit n = true)
    (w1 : Cond.classLink M.1.cls ik cls ∈ xWS) (w2 : Cond.initialized cls ∈ xWS) (w3 : ∀ w ∈ vx_atS M.1.cls ic cls names, w ∈ xWS) (hgood : ∀ w ∈ Cond.classLink M.1.cls ik cls :: Cond.initialized cls :: vx_atS M.1.cls ic cls names, vx_ot w = true)
    (d0 : decode M.2.1 pc = .ok (.new ik, 3)) (d3 : decode M.2.1 (pc + 3) = .ok (.dup, 1)) (d4 : decode M.2.1 (pc + 4) = .ok (.ldc_w is, 3)) (d6 : decode M.2.1 (pc + 7) = .ok (.invokespecial ic, 3)) (d9 : decode M.2.1 (pc + 10) = .ok (.athrow, 1))
    (hdf : names.length + 3 < d) (hdl : 13 * (names.length + 1) + 43 ≤ 64 * d) (r1 : P.1 + 1 ≤ 601024) (r2 : P.2.1 + 6 ≤ 7293034) (K : Q (.inr P.1) (xnew P 6 (.inr (20 + k, [])))) : Wp G l d M pc L [] P Q := by
  intro p e s m args below meth c R n0 k0 hE hB H locs cells slots ls h3 h4 h5 h6 h7 h8
  obtain ⟨hexec, hb, hml, hr, hlocks, htb, hown, hnm, hts, hS, hRf, hRl, hl⟩ := hE
  obtain ⟨b1, b2, b3⟩ := hB
  have b1 : R.cells + n0 = 601024 := b1
  have b2 : R.slots + k0 = 7293034 := b2
  have hout : ∀ x ∈ c.exceptionTable.toList, covers x (pc + 10) = false := by
    rw [htb, hhh]; intro x hx; cases hx
  have hsz : H.size = G.1 + P.1 := h7.1
  intro T hT X
  have htr : e.platform.stackTraces = false := (show e.platform.stackTraces = l.stackTraces by rw [X.admits.platform]).trans hl
  have Y := vx_rebase X (R' := { frames := R.frames, locals := R.locals, cells := 1, slots := 6 }) (Nat.le_refl _) (Nat.le_refl _) (show cells + 1 ≤ R.cells by omega) (show slots + 6 ≤ R.slots by omega)
  obtain ⟨s', hA⟩ : ∃ z, z = (T.setVm s.vm).setFrames (.invoking m args :: below) := ⟨_, rfl⟩
  rw [← hA] at Y
  have hvm : s'.vm = s.vm := by rw [hA]; rfl
  have hhp : s'.heap = H := by rw [hA]; exact hT
  have hW0 : s.WarmedH s'.vm := by rw [hvm]; exact State.WarmedH.refl s
  have hS' : xS G s' := hS.go hW0 hhp h8
  have hat' : ∀ w ∈ vx_atS M.1.cls ic cls names, w.before args s' = true := fun w hw => xWS_at hW0 hts w (w3 w hw)
  obtain ⟨-, e2, -, e4, -, -, -, hU', hN', -⟩ := hS'
  have h : ∀ w ∈ Jvm.Bundle.ownAtoms M.1.cls ic cls names, w.before args s' = true := vx_own hat' (vx_isRefq hU'.1) (vx_isRefq hN'.1) hU'.2.word hN'.2.word
  have hown' : s'.vm.findClass M.1.cls = some m.cls := by rw [hvm]; exact hown
  have hins : (Cond.instantiable cls 6).before args s' = true := h _ (by simp [Jvm.Bundle.ownAtoms])
  obtain ⟨vm₁, cX, kX, hfX, hkX, -, -, X₁, st1⟩ := Y.newCold hexec (own := M.1.cls) (C := cls) (index := ik) (n := 6) hown' (xWS_at hW0 hts _ w1) hins (xWS_at hW0 hts _ w2)
    (g := F0 m pc ls []) rfl (by rw [hb]; exact d0) (Nat.le_refl _) (Nat.le_refl _)
  generalize hT1 : (T.setVm vm₁).pushCell { cls := cX, slots := kX.instanceTypes.map defaultValue, vm := .none } = T1 at X₁ st1
  have hcat : (Value.ref T.heap.size).category = 1 := rfl
  have hcellA : T1.heap[T.heap.size]? = some (freshCell cX kX) := by rw [← hT1]; exact State.heap_pushCell_size _ _
  have d3' : decode c.code (pc + 3) = .ok (.dup, 1) := by rw [hb]; exact d3
  have d4' : decode c.code (pc + 4) = .ok (.ldc_w is, 3) := by rw [hb]; exact d4
  have hstr' : vk_R M.1.cls is text (G.2.2.2.1 (i + 1)) s' := e4 i _ hi
  obtain ⟨U, hsteps, hrun, hend, hW, hsame, ce, hce, hO⟩ := X₁.ctorThrowS hexec htr (own := M.1.cls) (cls := cls) (names := names) (ic := ic) hown' hcls hnames h (fun x hx => nomatch hx) hfX hkX hcellA (by rw [hhp, hT]; exact Nat.le_refl _) (msg := .ref (G.2.2.2.1 (i + 1))) rfl
    (g := { method := m, pc := pc + 7, locals := ls, stack := .ref (G.2.2.2.1 (i + 1)) :: .ref T.heap.size :: .ref T.heap.size :: [], locked := none }) rfl (h5.1.trans (h6.trans hml.symm)) rfl rfl (rest := []) rfl
    (by rw [hb]; exact d6) (by rw [hb]; exact d9) hout (show names.length + 3 < R.frames by omega) (by simp only [List.map_cons, List.map_nil, List.sum_cons, List.sum_nil, hcat]; show _ ≤ R.locals; omega) hlocks
  obtain ⟨f1, f2⟩ := vx_frame hsame
  rw [hhp] at f1 f2
  have hTs : T.heap.size = H.size := by rw [hT]
  have hUs : U.heap.size = H.size + 1 := by
    have g1 : U.heap.size ≤ s'.heap.size + (0 + 1) := hsame.2.2.1
    have g2 : T.heap.size < U.heap.size := (Array.getElem?_eq_some_iff.mp hce).1
    rw [hhp] at g1
    omega
  have hWs : s.WarmedH U.vm := State.WarmedH.trans hW0 hW
  have hcl : s.vm.findClass cls = some ce.cls := by
    have h9 := hO.cls
    rw [hvm] at h9
    exact h9
  have hall : s.sameButNew ({ U with vm := s.vm } : State) locs (cells + 1) (slots + 6) := by
    subst hA
    obtain ⟨e1, e2⟩ := hsame
    rw [State.setFrames_setFrames] at e1
    have h2 : (T.setVm s.vm).sameButNew ({ U with vm := s.vm } : State) [] (0 + 1) (0 + 6) := ⟨e1, e2⟩
    have h3 := X.same.trans h2
    rw [List.append_nil] at h3
    exact h3.mono (by omega) (by omega)
  have hid : ce.cls = G.2.1.1 (20 + k) := by
    have h9 := e2 k cls hk
    rw [hvm] at h9
    exact Option.some.inj (hcl.symm.trans h9)
  have hrel : xRel G (xnew P 6 (.inr (20 + k, []))) U.heap := by
    refine h7.new r1 r2 hUs (fun q hq => f2 q hq (fun z hz => nomatch hz)) ?_
    have hN0 : xN (20 + k) = 0 := by unfold xN; rw [List.getElem?_eq_none (by show 12 ≤ _; omega)]
    refine ⟨ce, by rw [← hsz, ← hTs]; exact hce, hid, hO.vm, fun j hj => ?_⟩
    have hj : j < xN (20 + k) := hj
    omega
  refine ⟨U, ?_, .threw T.heap.size, hrun, hend, .inr P.1, _, locs, cells + 1, slots + 6, K, ?_, hrel, hWs, ?_, ?_, hall, h8.2.2⟩
  · refine st1 _ ?_
    show Steps p.tables e below (T1.setTop { method := m, pc := pc + 3, locals := ls, stack := .ref T.heap.size :: [], locked := none }) _
    jvm_step X₁.here [X₁.here.top, hexec, d3', Value.category]
    exact X₁.ldcStringW hexec (own := M.1.cls) (text := text) (index := is) (a := G.2.2.2.1 (i + 1)) hown' hstr'.1 hstr'.2
      (g := { method := m, pc := pc + 4, locals := ls, stack := .ref T.heap.size :: .ref T.heap.size :: [], locked := none }) rfl d4' _ hsteps
  · show Outcome.threw _ = .threw _
    rw [hTs, hsz]
  · show cells + 1 + n0 = P.1 + 1
    omega
  · show slots + 6 + k0 = P.2.1 + 6
    omega
end XN
