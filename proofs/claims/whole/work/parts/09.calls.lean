def xPre (G : xG) (R : Room) (as : List Value) (P : xH) : Pt → Array Value → Prop := fun A a => A.cells + (601024 - P.1) ≤ R.cells ∧ A.slots + (7293034 - P.2.1) ≤ R.slots ∧ xPc G as P a A.U
def xPo (G : xG) (P : xH) (Qr : xH → Prop) (A B : Pt) : Prop := ∃ (P' : xH) (L : List Loc) (k n : Nat), Qr P' ∧ xRel G P' B.U.heap ∧ k + P.1 = P'.1 ∧ n + P.2.1 = P'.2.1 ∧ B.locs = A.locs ++ L ∧ (∀ z ∈ L, xAd G z.base) ∧ B.cells = A.cells + k ∧ B.slots = A.slots + n ∧ A.U.heap.size ≤ B.U.heap.size ∧ ∀ q : Nat, q < A.U.heap.size → ¬ xAd G q → B.U.heap[q]? = A.U.heap[q]?
def xPostR (G : xG) (P : xH) (Q : xR → xH → Prop) : Pt → Array Value → Option Value → Pt → Prop := fun A _ v B => ∃ v0, v = v0.map (xv G) ∧ xPo G P (Q (.inl v0)) A B
def xPostX (G : xG) (P : xH) (Q : xR → xH → Prop) : Pt → Array Value → Addr → Pt → Prop := fun A _ q B => ∃ i, q = G.1 + i ∧ xPo G P (Q (.inr i)) A B
section XB
variable {G : xG} {l : Launch} {R : Room} {p : Program} {e : Env} {below : List Frame} {s : State} {sargs : Array Value} {len W9 : Nat}
/-- a contract pays a caller -/
theorem xp_back {d : Nat} {M : xM} {as : List Value} {P : xH} {Q : xR → xH → Prop} (hM : Ct G l d M as P Q) (hframes : d + 1 ≤ R.frames) (hlocals : W9 + (M.2.2.1 + 11) + 64 * d ≤ R.locals) (hws : ∀ w ∈ xWS, w.before sargs s = true)
    (hcd : ∀ (a : Array Value) (U : State) (mk : MethodId), (∀ w ∈ xWS, w.before a U = true) → U.methodNamed? M.1 = some mk → ∃ methY cY, U.vm.method? mk = some methY ∧ methY.code = some cY ∧ cY.maxLocals = M.2.2.1) (hinit : Cond.initialized M.1.cls ∈ xWS) :
    vx_Back l R p e below s sargs M.1 len W9 (xPre G R as P) (xPostR G P Q) (xPostX G P Q) := by
  intro m meth c A g ig mk a X hg hsize hdg hW hn hp
  have hwA : ∀ w ∈ xWS, w.before a A.U = true := xWS_at X.warmed hws
  have h1 : (headSpec xWS (xRm d P)).pre.before a A.U = true := atoms_intro hwA
  have h4 : A.cells + (headSpec xWS (xRm d P)).room.cells ≤ R.cells := hp.1
  have h5 : A.slots + (headSpec xWS (xRm d P)).room.slots ≤ R.slots := hp.2.1
  obtain ⟨methY, cY, hmY, hcY, hlY⟩ := hcd a A.U mk hwA hn
  have h3 : (Cond.initialized M.1.cls).before a A.U = true := hwA _ hinit
  have hPc0 := hp.2.2
  obtain ⟨U, Ls, c0, s0⟩ := A
  dsimp only [Pt.U, Pt.locs, Pt.cells, Pt.slots] at h1 h3 h4 h5 X hn hPc0 hmY ⊢
  have hPc : xPc G as P a (U.calling g mk a) := by
    obtain ⟨r1, r2, r3⟩ := hPc0
    exact ⟨r1, r2, r3.go (locs := []) (State.WarmedH.refl U) rfl va_S.rf⟩
  obtain ⟨kY, hkY, -⟩ := className_of_methodNamed hn
  have hinitY : kY.init = .initialized := Cond.initialized_spec (findClass_of_methodNamed hn) hkY h3
  have h : At U g.method c below := by rw [hg]; exact X.here
  have hlocals9 : W9 + (M.2.2.1 + 11) + (headSpec xWS (xRm d P)).room.locals ≤ R.locals := hlocals
  have happ : (headSpec xWS (xRm d P)).appliesLoose M.1 e.platform (U.calling g mk a) = true :=
    Spec.appliesLoose_calling (g := g) h hdg hn hkY hinitY
      (X.room_calling (g := g) (R' := (headSpec xWS (xRm d P)).room) hsize hmY hcY hframes (by rw [hlY]; omega) h4 h5) h1
  obtain ⟨mid, hmid⟩ := h.above
  have hfr : (U.setTop g).frames = (.java g :: mid) ++ below := by rw [State.frames_setTop' g h.top, hmid]; rfl
  obtain ⟨o, s₂, hsteps, -, hend, hq⟩ := Steps.callFree hM p X.admits X.cas X.clock (acts := []) hfr happ hPc trivial
  have hq' : xEnd G (U.calling g mk a) P.1 P.2.1 Q o s₂ := hq
  rw [State.frames_setTop' g h.top] at hend
  obtain ⟨g₀, hg0⟩ := Option.isSome_iff_exists.mp h.top
  obtain ⟨r, hr⟩ := State.topJava?_eq_some.mp hg0
  have hr' : (({ U with heap := s₂.heap, slotsUsed := s₂.slotsUsed } : State).setVm s₂.vm).frames = .java g₀ :: r := hr
  obtain ⟨rr, P', L, mc, ms, hQ, hO, hR2, hW₂, hk1, hk2, hsm, hL⟩ := hq'
  obtain ⟨e2, q2, q3, q4, q5, q6⟩ := id hsm
  have hf := vx_frame hsm
  have hold : U.heap.size ≤ s₂.heap.size ∧ ∀ q : Nat, q < U.heap.size → ¬ xAd G q → s₂.heap[q]? = U.heap[q]? := ⟨hf.1, fun q hq1 hq2 => hf.2 q hq1 (fun z hz e9 => hq2 (e9 ▸ hL z hz))⟩
  have e3 : s₂ = ({ (U.calling g mk a).setFrames s₂.frames with heap := s₂.heap, slotsUsed := s₂.slotsUsed } : State).setVm s₂.vm := by
    have : s₂ = ({ s₂ with vm := (U.calling g mk a).vm } : State).setVm s₂.vm := rfl
    rw [e2] at this
    exact this
  have hW' : U.WarmedH s₂.vm := hW₂
  have hsame : U.sameButNew ({ U with heap := s₂.heap, slotsUsed := s₂.slotsUsed } : State) L mc ms := by
    refine ⟨?_, q2, q3, q4, q5, q6⟩
    obtain ⟨t, ht, -⟩ := State.frames_cons hr
    show ({ U with heap := s₂.heap, slotsUsed := s₂.slotsUsed } : State) = { U.setFrames U.frames with heap := s₂.heap, slotsUsed := s₂.slotsUsed }
    rw [State.setFrames_self ht]
  have hStand : Stand p l e R s m sargs below meth c (({ U with heap := s₂.heap, slotsUsed := s₂.slotsUsed } : State).setVm s₂.vm) (Ls ++ L) (c0 + mc) (s0 + ms) := by
    subst hg
    exact ⟨X.admits, X.cas, X.clock, X.frames, X.room, X.hears, X.method, X.code, (X.here.setHeapUsed s₂.heap s₂.slotsUsed).setVm hW'.alike, X.tail, State.WarmedH.trans X.warmed hW', X.limits, X.bytes, X.same.trans (hsame.setVm s.vm)⟩
  rcases rr with v | i
  · have hO : o = .returned (v.map (xv G)) := hO
    subst hO
    obtain ⟨c₂, i₂, len₂, hc₂, hd₂, hf₂⟩ := hend
    have hcc : c₂ = c := by
      have h1 : s₂.code? g.method = U.code? g.method := by
        rw [State.code?_eq, State.code?_eq, hW'.alike.method?]
      exact Option.some.inj (hc₂.symm.trans (h1.trans h.code))
    subst hcc
    have hlen : len₂ = len := by rw [hdg] at hd₂; cases hd₂; rfl
    subst hlen
    have hs₂ : s₂ = (({ U with heap := s₂.heap, slotsUsed := s₂.slotsUsed } : State).setVm s₂.vm).setTop { g with pc := g.pc + len₂, stack := (v.map (xv G)).toList ++ g.stack } := by
      refine e3.trans ?_
      rw [hf₂, State.calling_eq h.top, State.setFrames_setFrames, State.setTop_of_frames _ hr', hr]
      rfl
    refine Or.inl ⟨v.map (xv G), ⟨(({ U with heap := s₂.heap, slotsUsed := s₂.slotsUsed } : State).setVm s₂.vm), Ls ++ L, c0 + mc, s0 + ms⟩, hStand, ⟨v, rfl, P', L, mc, ms, hQ, hR2, hk1, hk2, rfl, hL, rfl, rfl, hold⟩, ?_⟩
    show Steps p.tables e below _ ((({ U with heap := s₂.heap, slotsUsed := s₂.slotsUsed } : State).setVm s₂.vm).setTop { g with pc := g.pc + len₂, stack := (v.map (xv G)).toList ++ g.stack })
    rw [← hs₂]
    exact hsteps
  · have hO : o = .threw (G.1 + i) := hO
    subst hO
    have hf₂ : s₂.frames = .throwing (G.1 + i) :: .java g :: U.frames.tail := hend
    have hs₂ : s₂ = ((({ U with heap := s₂.heap, slotsUsed := s₂.slotsUsed } : State).setVm s₂.vm).setTop g).pushFrame (.throwing (G.1 + i)) := by
      refine e3.trans ?_
      rw [hf₂, State.calling_eq h.top, State.setFrames_setFrames, State.pushFrame, State.frames_setTop _ hr', State.setTop_of_frames _ hr', State.setFrames_setFrames, hr]
      rfl
    refine Or.inr ⟨G.1 + i, ⟨(({ U with heap := s₂.heap, slotsUsed := s₂.slotsUsed } : State).setVm s₂.vm), Ls ++ L, c0 + mc, s0 + ms⟩, hStand, ⟨i, rfl, P', L, mc, ms, hQ, hR2, hk1, hk2, rfl, hL, rfl, rfl, hold⟩, ?_⟩
    show Steps p.tables e below _ (((({ U with heap := s₂.heap, slotsUsed := s₂.slotsUsed } : State).setVm s₂.vm).setTop g).pushFrame (.throwing (G.1 + i)))
    rw [← hs₂]
    exact hsteps
/-- .. one that doesn't throw -/
theorem xp_backR {y : MethodName} {Pre : Pt → Array Value → Prop} {P : xH} {Q : xR → xH → Prop} (h : vx_Back l R p e below s sargs y len W9 Pre (xPostR G P Q) (xPostX G P Q)) (hno : ∀ i P', ¬ Q (.inr i) P') : Back l R p e below s sargs y len W9 Pre (xPostR G P Q) := by
  intro m meth c A g ig mk a X hg hsize hdg hW hn hp
  rcases h m meth c A g ig mk a X hg hsize hdg hW hn hp with h | ⟨q, B, -, ⟨i, -, P', L, k, n, hQ, -⟩, -⟩
  · exact h
  · exact absurd hQ (hno i P')
end XB
theorem xCw.cd {M : xM} {n : Nat} (h : xCw M n) (a : Array Value) (U : State) (mk : MethodId) (hw : ∀ w ∈ xWS, w.before a U = true) (hn : U.methodNamed? M.1 = some mk) : ∃ methY cY, U.vm.method? mk = some methY ∧ methY.code = some cY ∧ cY.maxLocals = M.2.2.1 := by
  obtain ⟨methY, cY, hmY, hcY, -, hlY, -, -, -, -⟩ := Cond.code_spec hn (hw _ h.1)
  exact ⟨methY, cY, hmY, hcY, hlY⟩
theorem xCw.len {M : xM} {n : Nat} (h : xCw M n) {k : Nat} (hk : k = n) (sig : MethodDescriptor) (hs : parseMethodDescriptor M.1.desc = some sig) : k = sig.parameters.length := by
  have h2 := h.2.2.2
  rw [hs] at h2
  exact hk.trans (Option.some.inj h2).symm
section XC
variable {G : xG} {l : Launch} {d d' : Nat} {M M' : xM} {pc : Nat} {L : xL} {stk st : List Value} {P : xH} {Q Q' : xR → xH → Prop}
/-- behind a call that came back -/
theorem x_back {p : Program} {e : Env} {s : State} {m : MethodId} {args : Array Value} {below : List Frame} {meth : Method} {c : Code} {R : Room} {n0 k0 : Nat} {H : Heap} {locs : List Loc} {cells slots : Nat} {ls : Array Slot} {T : State} {vm₁ : Vm} {B : Pt} {Qr : xH → Prop} {pc' : Nat} {st' : List Value}
    (hE : xE G l d M p s m args meth c R) (hB : xB G s R n0 k0) (h3 : cells + n0 = P.1) (h4 : slots + k0 = P.2.1) (h5 : xlr G ls L) (h6 : L.length = M.2.2.1) (h8 : va_S (xAd G) s.heap H locs) (hT : T.heap = H) (X' : Stand p l e R s m args below meth c B.U B.locs B.cells B.slots) (hp : xPo G P Qr ⟨T.setVm vm₁, locs, cells, slots⟩ B)
    (K : ∀ P', Qr P' → Wp G l d M pc' L st' P' Q) : ∃ t, Steps p.tables e below (B.U.setTop (F0 m pc' ls (st'.map (xv G)))) t ∧ ∃ o, t.status = .running ∧ Ended t below o ∧ xEnd G s n0 k0 Q o t := by
  obtain ⟨P', L1, k, n, hQ, hR, e1, e2, e3, e4, e5, e6, e7, e8⟩ := hp
  dsimp only [Pt.U, Pt.locs, Pt.cells, Pt.slots] at e3 e5 e6 e7 e8
  have hTv : (T.setVm vm₁).heap = H := hT
  rw [hTv] at e7 e8
  refine K P' hQ p e s m args below meth c R n0 k0 hE hB B.U.heap B.locs B.cells B.slots ls (by show B.2.2.1 + n0 = P'.1; omega) (by show B.2.2.2 + k0 = P'.2.1; omega) h5 h6 hR ⟨Nat.le_trans h8.1 e7, fun q q1 q2 => (e8 q (Nat.lt_of_lt_of_le q1 h8.1) q2).trans (h8.2.1 q q1 q2), ?_⟩ B.U rfl X'
  show ∀ z ∈ B.2.1, xAd G z.base
  rw [e3]
  intro z hz
  rcases List.mem_append.mp hz with h | h
  · exact h8.2.2 z h
  · exact e4 z h
/-- what was thrown goes on to the caller: no handlers here -/
theorem x_out {p : Program} {e : Env} {s : State} {m : MethodId} {args : Array Value} {below : List Frame} {meth : Method} {c : Code} {R : Room} {n0 k0 : Nat} {H : Heap} {locs : List Loc} {cells slots : Nat} {ls : Array Slot} {T : State} {vm₁ : Vm} {B : Pt} {Qr : xH → Prop} {pc' i : Nat} {rest : List Value}
    (hE : xE G l d M p s m args meth c R) (hhh : M.2.2.2.2 = []) (h3 : cells + n0 = P.1) (h4 : slots + k0 = P.2.1) (h8 : va_S (xAd G) s.heap H locs) (X' : Stand p l e R s m args below meth c B.U B.locs B.cells B.slots) (hp : xPo G P Qr ⟨T.setVm vm₁, locs, cells, slots⟩ B)
    (K : ∀ P', Qr P' → Q (.inr i) P') : ∃ t, Steps p.tables e below ((B.U.setTop (F0 m pc' ls rest)).pushFrame (.throwing (G.1 + i))) t ∧ ∃ o, t.status = .running ∧ Ended t below o ∧ xEnd G s n0 k0 Q o t := by
  obtain ⟨P', L1, k, n, hQ, hR, e1, e2, e3, e4, e5, e6, e7, e8⟩ := hp
  dsimp only [Pt.U, Pt.locs, Pt.cells, Pt.slots] at e3 e5 e6 e7 e8
  obtain ⟨hexec, hb, hml, hr, hlocks, htb, -⟩ := hE
  have hout : ∀ x ∈ c.exceptionTable.toList, covers x pc' = false := by
    rw [htb, hhh]; intro x hx; cases hx
  obtain ⟨st1, hrun, hend, hW, hsm⟩ := X'.leaveThrown (G.1 + i) (g := F0 m pc' ls rest) rfl rfl rfl hout hlocks
  refine ⟨_, st1, .threw (G.1 + i), hrun, hend, .inr i, P', B.locs, B.cells, B.slots, K P' hQ, rfl, hR, hW, by show B.2.2.1 + n0 = P'.1; omega, by show B.2.2.2 + k0 = P'.2.1; omega, hsm, ?_⟩
  show ∀ z ∈ B.2.1, xAd G z.base
  rw [e3]
  intro z hz
  rcases List.mem_append.mp hz with h | h
  · exact h8.2.2 z h
  · exact e4 z h
theorem x_pre {s : State} {R : Room} {n0 k0 : Nat} {H : Heap} {locs : List Loc} {cells slots : Nat} {T : State} {as : List Value} (hS : xS G s) (hB : xB G s R n0 k0) (h3 : cells + n0 = P.1) (h4 : slots + k0 = P.2.1) (h7 : xRel G P H) (h8 : va_S (xAd G) s.heap H locs) (hT : T.heap = H) (vm₁ : Vm) (hW : s.WarmedH vm₁) : xPre G R as P ⟨T.setVm vm₁, locs, cells, slots⟩ ((as.map (xv G)).toArray) := by
  obtain ⟨b1, b2, b3⟩ := hB
  have b1 : R.cells + n0 = 601024 := b1
  have b2 : R.slots + k0 = 7293034 := b2
  have := h7.2.2.2
  refine ⟨show cells + (601024 - P.1) ≤ R.cells by omega, show slots + (7293034 - P.2.1) ≤ R.slots by omega, rfl, by show xRel G P T.heap; rw [hT]; exact h7, hS.go (U := T.setVm vm₁) hW hT h8⟩
theorem x_wt {m : MethodId} {ls : Array Slot} {st0 : List Value} (h : (st.map fun v => v.category).sum ≤ 8) : 2 * (F0 m pc ls st0).monitorRoom + ((st.map (xv G)).map fun v => v.category).sum ≤ 8 := by
  have e : (st.map (xv G)).map (fun v => v.category) = st.map fun v => v.category := by
    rw [List.map_map]; exact List.map_congr_left fun v _ => xv_cat G v
  refine lv_room ?_
  rw [e]; exact h
/-- a call of an object's method, from a method without handlers -/
theorem x_callV {idx n a ci : Nat} {as fs : List Value} (hC : Ct G l d' M' (.ref a :: as) P Q') (hd : decode M.2.1 pc = .ok (.invokevirtual idx, 3)) (hw : xCw M' n) (w1 : Cond.methodLink M.1.cls idx M'.1 ∈ xWS) (w2 : Cond.instanceMethod M'.1 ∈ xWS) (w3 : Cond.selects M'.1.cls M'.1 M'.1 ∈ xWS) (hn : as.length = n)
    (hc : P.2.2 a = .inr (ci, fs)) (hci : ci < 12) (hcn : xNm ci = M'.1.cls) (hdd : d' < d) (hml' : M'.2.2.1 ≤ 45) (hs : stk = as.reverse ++ .ref a :: st) (hst : (st.map fun v => v.category).sum ≤ 8) (hhh : M.2.2.2.2 = [])
    (K : ∀ v P', Q' (.inl v) P' → Wp G l d M (pc + 3) L (v.toList ++ st) P' Q) (KX : ∀ i P', Q' (.inr i) P' → Q (.inr i) P') : Wp G l d M pc L stk P Q := by
  subst hs
  intro p e s m args below meth c R n0 k0 hE hB H locs cells slots ls h3 h4 h5 h6 h7 h8 T hT X
  obtain ⟨hx, hb, hml, hr, hlk, htb, hown, hnm, hts, hS, hRf, hRl, hl⟩ := id hE
  have hK : vx_Back l R p e below s args M'.1 3 8 (xPre G R (.ref a :: as) P) (xPostR G P Q') (xPostX G P Q') := xp_back hC (by omega) (by omega) hts hw.cd hw.2.1
  obtain ⟨cell, q1, q2, q3, -⟩ := h7.at hc (xne hci)
  obtain ⟨hSl, hfc, -⟩ := hS.1.1 ci _ (xCl_at hci)
  have hmap : (as.reverse ++ .ref a :: st).map (xv G) = (as.map (xv G)).reverse ++ .ref (G.1 + a) :: st.map (xv G) := by simp [xv_ref]
  rcases vx_callV X hx (C := M'.1.cls) (bytes := M'.2.1) (maxL := M'.2.2.1) (ret := M'.2.2.2.1) hown (hts _ w1) (hts _ w2) (hts _ w3) (hts _ hw.1) hw.2.2.1 hK (by rw [hT]; exact q1) (by rw [q3]; rfl) (by rw [q2, ← hcn]; exact hfc)
    (g := F0 m pc ls ((as.reverse ++ .ref a :: st).map (xv G))) rfl (h5.1.trans (h6.trans hml.symm)) (argsL := as.map (xv G)) (rest := st.map (xv G)) (fun sig h => by rw [List.length_map]; exact hw.len hn sig h) hmap (x_wt hst) (by rw [hb]; exact hd)
    (fun vm₁ hW₁ => x_pre hS hB h3 h4 h7 h8 hT vm₁ hW₁) with ⟨v, vm₁, B, hW₁, X', ⟨v0, rfl, hp⟩, st1⟩ | ⟨q, vm₁, B, hW₁, X', ⟨i, rfl, hp⟩, st1⟩
  · obtain ⟨t, a1, b1⟩ := x_back (pc' := pc + 3) (st' := v0.toList ++ st) hE hB h3 h4 h5 h6 h8 hT X' hp (K v0)
    refine ⟨t, st1 t ?_, b1⟩
    rw [show (v0.map (xv G)).toList ++ st.map (xv G) = (v0.toList ++ st).map (xv G) by cases v0 <;> simp]
    exact a1
  · obtain ⟨t, a1, b1⟩ := x_out hE hhh h3 h4 h8 X' hp (KX i)
    exact ⟨t, st1.trans a1, b1⟩
/-- a static call within the class's own reach -/
theorem x_callS {idx n : Nat} {as : List Value} (hC : Ct G l d' M' as P Q') (hd : decode M.2.1 pc = .ok (.invokestatic idx, 3)) (hw : xCw M' n) (w1 : Cond.methodLink M.1.cls idx M'.1 ∈ xWS) (w2 : Cond.static M'.1 ∈ xWS) (hn : as.length = n)
    (hdd : d' < d) (hml' : M'.2.2.1 ≤ 45) (hs : stk = as.reverse ++ st) (hst : (st.map fun v => v.category).sum ≤ 8) (hhh : M.2.2.2.2 = [])
    (K : ∀ v P', Q' (.inl v) P' → Wp G l d M (pc + 3) L (v.toList ++ st) P' Q) (KX : ∀ i P', Q' (.inr i) P' → Q (.inr i) P') : Wp G l d M pc L stk P Q := by
  subst hs
  intro p e s m args below meth c R n0 k0 hE hB H locs cells slots ls h3 h4 h5 h6 h7 h8 T hT X
  obtain ⟨hx, hb, hml, hr, hlk, htb, hown, hnm, hts, hS, hRf, hRl, hl⟩ := id hE
  have hK : vx_Back l R p e below s args M'.1 3 8 (xPre G R as P) (xPostR G P Q') (xPostX G P Q') := xp_back hC (by omega) (by omega) hts hw.cd hw.2.1
  have hmap : (as.reverse ++ st).map (xv G) = (as.map (xv G)).reverse ++ st.map (xv G) := by simp
  rcases vx_callS X hx (bytes := M'.2.1) (maxL := M'.2.2.1) (ret := M'.2.2.2.1) hown (hts _ w1) (hts _ w2) (hts _ hw.2.1) (hts _ hw.1) hw.2.2.1 hK
    (g := F0 m pc ls ((as.reverse ++ st).map (xv G))) rfl (h5.1.trans (h6.trans hml.symm)) (argsL := as.map (xv G)) (rest := st.map (xv G)) (fun sig h => by rw [List.length_map]; exact hw.len hn sig h) hmap (x_wt hst) (by rw [hb]; exact hd)
    (fun vm₁ hW₁ => x_pre hS hB h3 h4 h7 h8 hT vm₁ hW₁) with ⟨v, vm₁, B, hW₁, X', ⟨v0, rfl, hp⟩, st1⟩ | ⟨q, vm₁, B, hW₁, X', ⟨i, rfl, hp⟩, st1⟩
  · obtain ⟨t, a1, b1⟩ := x_back (pc' := pc + 3) (st' := v0.toList ++ st) hE hB h3 h4 h5 h6 h8 hT X' hp (K v0)
    refine ⟨t, st1 t ?_, b1⟩
    rw [show (v0.map (xv G)).toList ++ st.map (xv G) = (v0.toList ++ st).map (xv G) by cases v0 <;> simp]
    exact a1
  · obtain ⟨t, a1, b1⟩ := x_out hE hhh h3 h4 h8 X' hp (KX i)
    exact ⟨t, st1.trans a1, b1⟩
end XC
