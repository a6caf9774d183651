/-! methods with handlers (the law's helpers): calls that may throw into a handler, and calls of such methods -/
/-- the law's catch types: entry of its pool to number in xEx -/
def xct (z : Nat) : Option Nat := if z = 13 then some 0 else if z = 15 then some 1 else if z = 17 then some 2 else if z = 19 then some 3 else if z = 44 then some 4 else none
theorem xct_lt {z k : Nat} (h : xct z = some k) : k < 5 ∧ z ≠ 0 := by
  unfold xct at h
  repeat' split at h
  all_goals cases h
  all_goals refine ⟨by decide, ?_⟩
  all_goals omega
theorem xct_link {z k : Nat} (h : xct z = some k) : Cond.classLink RL z (xEx.getD k "") ∈ xWS := by
  unfold xct at h
  repeat' split at h
  all_goals cases h
  all_goals rename_i hz
  all_goals subst hz
  · exact wk_L_13
  · exact wk_L_15
  · exact wk_L_17
  · exact wk_L_19
  · exact wk_L_44
theorem xct_cast {k : Nat} (h : k < 5) : Cond.castable (xEx.getD k "") (xEx.getD k "") ∈ xWS := by
  match k, h with
  | 0, _ => exact wca_E0
  | 1, _ => exact wca_E1
  | 2, _ => exact wca_E2
  | 3, _ => exact wca_E3
  | 4, _ => exact wca_E4
/-- where a throw of class k at pc is caught -/
def xfind (pc k : Nat) : List (Nat × Nat × Nat × Nat) → Option Nat
  | [] => none
  | z :: r => if z.1 ≤ pc ∧ pc < z.2.1 then (match xct z.2.2.2 with | some j => if j = k then some z.2.2.1 else xfind pc k r | none => none) else xfind pc k r
theorem xfind_ok {pc k h : Nat} : ∀ {hh : List (Nat × Nat × Nat × Nat)}, xfind pc k hh = some h →
    ∃ pre z suf, hh = pre ++ z :: suf ∧ (∀ y ∈ pre, ¬ (y.1 ≤ pc ∧ pc < y.2.1) ∨ ∃ j, xct y.2.2.2 = some j ∧ j ≠ k) ∧ (z.1 ≤ pc ∧ pc < z.2.1) ∧ xct z.2.2.2 = some k ∧ z.2.2.1 = h
  | [], e => by cases e
  | z :: r, e => by
    unfold xfind at e
    by_cases hc : z.1 ≤ pc ∧ pc < z.2.1
    · rw [if_pos hc] at e
      cases hj : xct z.2.2.2 with
      | none => rw [hj] at e; cases e
      | some j =>
        rw [hj] at e
        simp only at e
        by_cases hk : j = k
        · rw [if_pos hk] at e
          subst hk
          exact ⟨[], z, r, rfl, nofun, hc, hj, Option.some.inj e⟩
        · rw [if_neg hk] at e
          obtain ⟨pre, y, suf, e1, e2, e3⟩ := xfind_ok e
          exact ⟨z :: pre, y, suf, by rw [e1]; rfl, List.forall_mem_cons.mpr ⟨Or.inr ⟨j, hj, hk⟩, e2⟩, e3⟩
    · rw [if_neg hc] at e
      obtain ⟨pre, y, suf, e1, e2, e3⟩ := xfind_ok e
      exact ⟨z :: pre, y, suf, by rw [e1]; rfl, List.forall_mem_cons.mpr ⟨Or.inl hc, e2⟩, e3⟩
/-- the number in xEx of what was thrown -/
def xcat (P : xH) (i : Nat) : Option Nat := match P.2.2 i with
  | .inr (c, []) => if 20 ≤ c ∧ c < 25 then some (c - 20) else none
  | _ => none
theorem xcat_ok {P : xH} {i k : Nat} (h : xcat P i = some k) : P.2.2 i = .inr (20 + k, []) ∧ k < 5 := by
  unfold xcat at h
  split at h
  · rename_i c hc
    split at h
    · rename_i hb
      have h := Option.some.inj h
      refine ⟨?_, by omega⟩
      rw [hc, show c = 20 + k by omega]
    · cases h
  · cases h
theorem xEx_get {k : Nat} (h : k < 5) : xEx[k]? = some (xEx.getD k "") := by
  match k, h with
  | 0, _ => rfl
  | 1, _ => rfl
  | 2, _ => rfl
  | 3, _ => rfl
  | 4, _ => rfl
section XHd
variable {G : xG} {l : Launch} {d d' : Nat} {M M' : xM} {pc : Nat} {L : xL} {stk st : List Value} {P : xH} {Q Q' : xR → xH → Prop}
/-- what was thrown is caught here -/
theorem x_caught {p : Program} {e : Env} {s : State} {m : MethodId} {args : Array Value} {below : List Frame} {meth : Method} {c : Code} {R : Room} {n0 k0 : Nat} {H : Heap} {locs : List Loc} {cells slots : Nat} {ls : Array Slot} {T : State} {vm₁ : Vm} {B : Pt} {Qr : xH → Prop} {i : Nat} {rest : List Value} (hL : M.1.cls = RL)
    (hE : xE G l d M p s m args meth c R) (hB : xB G s R n0 k0) (h3 : cells + n0 = P.1) (h4 : slots + k0 = P.2.1) (h5 : xlr G ls L) (h6 : L.length = M.2.2.1) (h8 : va_S (xAd G) s.heap H locs) (hT : T.heap = H) (X' : Stand p l e R s m args below meth c B.U B.locs B.cells B.slots) (hp : xPo G P Qr ⟨T.setVm vm₁, locs, cells, slots⟩ B)
    (K : ∀ P', Qr P' → ∃ k h, xcat P' i = some k ∧ xfind pc k M.2.2.2.2 = some h ∧ Wp G l d M h L [.ref i] P' Q) : ∃ t, Steps p.tables e below ((B.U.setTop (F0 m pc ls rest)).pushFrame (.throwing (G.1 + i))) t ∧ ∃ o, t.status = .running ∧ Ended t below o ∧ xEnd G s n0 k0 Q o t := by
  obtain ⟨P', L1, a, b, hQ, hR, e1, e2, e3, e4, e5, e6, e7, e8⟩ := hp
  dsimp only [Pt.U, Pt.locs, Pt.cells, Pt.slots] at e3 e5 e6 e7 e8
  have hTv : (T.setVm vm₁).heap = H := hT
  rw [hTv] at e7 e8
  obtain ⟨k, h, hk, hf, hW⟩ := K P' hQ
  obtain ⟨hci, hk5⟩ := xcat_ok hk
  obtain ⟨pre, z, suf, hh, hpre, hcov, hz, rfl⟩ := xfind_ok hf
  obtain ⟨hx, hb, hml, hr, hlk, htb, hown, hnm, hts, hS, hRf, hRl, hl⟩ := id hE
  obtain ⟨-, hS2, hS3, -⟩ := id hS
  rw [hL] at hown
  obtain ⟨cell, q1, q2, q3, -⟩ := hR.at hci (by intro q9; have q8 := congrArg Prod.fst (Sum.inr.inj q9); simp only at q8; omega)
  have K := hW p e s m args below meth c R n0 k0 hE hB B.U.heap B.locs B.cells B.slots ls (by show B.2.2.1 + n0 = P'.1; omega) (by show B.2.2.2 + k0 = P'.2.1; omega) h5 h6 hR ⟨Nat.le_trans h8.1 e7, fun q q1 q2 => (e8 q (Nat.lt_of_lt_of_le q1 h8.1) q2).trans (h8.2.1 q q1 q2), by
    show ∀ z ∈ B.2.1, xAd G z.base
    rw [e3]
    intro z hz
    rcases List.mem_append.mp hz with h | h
    · exact h8.2.2 z h
    · exact e4 z h⟩
  have htab : c.exceptionTable.toList = tableOf pre ++ ⟨z.1, z.2.1, z.2.2.1, z.2.2.2⟩ :: tableOf suf := by
    rw [htb, hh]
    simp [tableOf]
  have hcell : B.U.heap[G.1 + i]? = some cell := q1
  refine vx_catch (own := RL) (E := xEx.getD k "") (name := xEx.getD k "") (ce := cell) (q := G.1 + i) hown (tableOf pre) ⟨z.1, z.2.1, z.2.2.1, z.2.2.2⟩ (tableOf suf) htab ?_ ?_ (xct_lt hz).2 (hts _ (xct_link hz)) (hts _ (xct_cast hk5)) hcell q3 ?_ K B.U rfl X'
  · intro y hy
    obtain ⟨w, hw, rfl⟩ := List.mem_map.mp hy
    rcases hpre w hw with h9 | ⟨j, hj, hne⟩
    · refine Or.inl ?_
      simp only [covers, Bool.and_eq_false_iff, decide_eq_false_iff_not]
      omega
    · exact Or.inr ⟨(xct_lt hj).2, xEx.getD j "", hts _ (xct_link hj), hS3 k j hk5 (xct_lt hj).1 (fun q => hne q.symm)⟩
  · simp only [covers, Bool.and_eq_true, decide_eq_true_eq]
    exact hcov
  · rw [q2]
    exact hS2 k _ (xEx_get hk5)
/-- a call of an object's method that may throw into a handler of the caller -/
theorem x_callVH {idx n a ci : Nat} {as fs : List Value} (hL : M.1.cls = RL) (hC : Ct G l d' M' (.ref a :: as) P Q') (hd : decode M.2.1 pc = .ok (.invokevirtual idx, 3)) (hw : xCw M' n) (w1 : Cond.methodLink M.1.cls idx M'.1 ∈ xWS) (w2 : Cond.instanceMethod M'.1 ∈ xWS) (w3 : Cond.selects M'.1.cls M'.1 M'.1 ∈ xWS) (hn : as.length = n)
    (hc : P.2.2 a = .inr (ci, fs)) (hci : ci < 12) (hcn : xNm ci = M'.1.cls) (hdd : d' < d) (hml' : M'.2.2.1 ≤ 45) (hs : stk = as.reverse ++ .ref a :: st) (hst : (st.map fun v => v.category).sum ≤ 8)
    (K : ∀ v P', Q' (.inl v) P' → Wp G l d M (pc + 3) L (v.toList ++ st) P' Q) (KX : ∀ i P', Q' (.inr i) P' → ∃ k h, xcat P' i = some k ∧ xfind pc k M.2.2.2.2 = some h ∧ Wp G l d M h L [.ref i] P' Q) : Wp G l d M pc L stk P Q := by
  subst hs
  intro p e s m args below meth c R n0 k0 hE hB H locs cells slots ls h3 h4 h5 h6 h7 h8 T hT X
  obtain ⟨hx, hb, hml, hr, hlk, htb, hown, hnm, hts, hS, hRf, hRl, hl⟩ := id hE
  have hK : vx_Back l R p e below s args M'.1 3 8 (xPre G R (.ref a :: as) P) (xPostR G P Q') (xPostX G P Q') := xp_back hC (by omega) (by omega) hts hw.cd hw.2.1
  obtain ⟨cell, q1, q2, q3, -⟩ := h7.at hc (xne hci)
  obtain ⟨hSl, hfc, -⟩ := hS.1.1 ci _ (xCl_at hci)
  have hmap : (as.reverse ++ .ref a :: st).map (xv G) = (as.map (xv G)).reverse ++ .ref (G.1 + a) :: st.map (xv G) := by simp [xv_ref]
  rcases vx_callV X hx (C := M'.1.cls) (bytes := M'.2.1) (maxL := M'.2.2.1) (ret := M'.2.2.2.1) hown (hts _ w1) (hts _ w2) (hts _ w3) (hts _ hw.1) hw.2.2.1 hK (by rw [hT]; exact q1) (by rw [q3]; rfl) (by rw [q2, ← hcn]; exact hfc)
    (g := F0 m pc ls ((as.reverse ++ .ref a :: st).map (xv G))) rfl (h5.1.trans (h6.trans hml.symm)) (argsL := as.map (xv G)) (rest := st.map (xv G)) (fun sig h => by rw [List.length_map]; exact hw.len hn sig h) hmap (x_wt hst) (by rw [hb]; exact hd)
    (fun vm₁ hW₁ => x_pre hS hB h3 h4 h7 h8 hT vm₁ hW₁) with ⟨v, vm₁, B, hW₁, X', ⟨v0, rfl, hp⟩, st1⟩ | ⟨q, vm₁, B, hW₁, X', ⟨i, rfl, hp⟩, st1⟩
  · obtain ⟨t, a1, b1⟩ := x_back (pc' := pc + 3) (st' := v0.toList ++ st) hE hB h3 h4 h5 h6 h8 hT X' hp (K v0)
    refine ⟨t, st1 t ?_, b1⟩
    rw [show (v0.map (xv G)).toList ++ st.map (xv G) = (v0.toList ++ st).map (xv G) by cases v0 <;> simp]
    exact a1
  · obtain ⟨t, a1, b1⟩ := x_caught hL hE hB h3 h4 h5 h6 h8 hT X' hp (KX i)
    exact ⟨t, st1.trans a1, b1⟩
/-- what a call of a method with handlers rests on -/
def xCh (M : xM) (n : Nat) : Prop := Cond.codeWith M.1 M.2.1 M.2.2.1 M.2.2.2.1 M.2.2.2.2 ∈ xWS ∧ Cond.initialized M.1.cls ∈ xWS ∧ (M.1.cls ≠ "java/lang/invoke/MethodHandle" ∧ M.1.cls ≠ "java/lang/invoke/VarHandle") ∧ (parseMethodDescriptor M.1.desc).map (fun d => d.parameters.length) = some n
theorem xCh.cd {M : xM} {n : Nat} (h : xCh M n) (a : Array Value) (U : State) (mk : MethodId) (hw : ∀ w ∈ xWS, w.before a U = true) (hn : U.methodNamed? M.1 = some mk) : ∃ methY cY, U.vm.method? mk = some methY ∧ methY.code = some cY ∧ cY.maxLocals = M.2.2.1 := by
  obtain ⟨m9, methY, cY, hn9, hmY, hcY, -, hlY, -⟩ := Cond.codeWith_spec (args := a) (first := U) (o := none) (idx := []) (hw _ h.1)
  cases Option.some.inj (hn9.symm.trans hn)
  exact ⟨methY, cY, hmY, hcY, hlY⟩
theorem xCh.len {M : xM} {n : Nat} (h : xCh M n) {k : Nat} (hk : k = n) (sig : MethodDescriptor) (hs : parseMethodDescriptor M.1.desc = some sig) : k = sig.parameters.length := by
  have h2 := h.2.2.2
  rw [hs] at h2
  exact hk.trans (Option.some.inj h2).symm
/-- a static call of a method with handlers, from one without -/
theorem x_callSH {idx n : Nat} {as : List Value} (hC : Ct G l d' M' as P Q') (hd : decode M.2.1 pc = .ok (.invokestatic idx, 3)) (hw : xCh M' n) (w1 : Cond.methodLink M.1.cls idx M'.1 ∈ xWS) (w2 : Cond.static M'.1 ∈ xWS) (hn : as.length = n)
    (hdd : d' < d) (hml' : M'.2.2.1 ≤ 45) (hs : stk = as.reverse ++ st) (hst : (st.map fun v => v.category).sum ≤ 8) (hhh : M.2.2.2.2 = [])
    (K : ∀ v P', Q' (.inl v) P' → Wp G l d M (pc + 3) L (v.toList ++ st) P' Q) (KX : ∀ i P', Q' (.inr i) P' → Q (.inr i) P') : Wp G l d M pc L stk P Q := by
  subst hs
  intro p e s m args below meth c R n0 k0 hE hB H locs cells slots ls h3 h4 h5 h6 h7 h8 T hT X
  obtain ⟨hx, hb, hml, hr, hlk, htb, hown, hnm, hts, hS, hRf, hRl, hl⟩ := id hE
  have hK : vx_Back l R p e below s args M'.1 3 8 (xPre G R as P) (xPostR G P Q') (xPostX G P Q') := xp_back hC (by omega) (by omega) hts hw.cd hw.2.1
  have hmap : (as.reverse ++ st).map (xv G) = (as.map (xv G)).reverse ++ st.map (xv G) := by simp
  rcases vx_callSX X hx (bytes := M'.2.1) (maxL := M'.2.2.1) (ret := M'.2.2.2.1) (hh := M'.2.2.2.2) hown (hts _ w1) (hts _ w2) (hts _ hw.2.1) (hts _ hw.1) hw.2.2.1 hK
    (g := F0 m pc ls ((as.reverse ++ st).map (xv G))) rfl (h5.1.trans (h6.trans hml.symm)) (argsL := as.map (xv G)) (rest := st.map (xv G)) (fun sig h => by rw [List.length_map]; exact hw.len hn sig h) hmap (x_wt hst) (by rw [hb]; exact hd)
    (fun vm₁ hW₁ => x_pre hS hB h3 h4 h7 h8 hT vm₁ hW₁) with ⟨v, vm₁, B, hW₁, X', ⟨v0, rfl, hp⟩, st1⟩ | ⟨q, vm₁, B, hW₁, X', ⟨i, rfl, hp⟩, st1⟩
  · obtain ⟨t, a1, b1⟩ := x_back (pc' := pc + 3) (st' := v0.toList ++ st) hE hB h3 h4 h5 h6 h8 hT X' hp (K v0)
    refine ⟨t, st1 t ?_, b1⟩
    rw [show (v0.map (xv G)).toList ++ st.map (xv G) = (v0.toList ++ st).map (xv G) by cases v0 <;> simp]
    exact a1
  · obtain ⟨t, a1, b1⟩ := x_out hE hhh h3 h4 h8 X' hp (KX i)
    exact ⟨t, st1.trans a1, b1⟩
end XHd
/-- a method with handlers, by its body -/
theorem Ct.ofW {G : xG} {l : Launch} {d : Nat} {y : MethodName} {cc : ByteArray} {maxL : Nat} {ret : Option FieldType} {hh : List (Nat × Nat × Nat × Nat)} {as : List Value} {P : xH} {Q : xR → xH → Prop} (hl : l.stackTraces = false) (hy : plainName y.cls = true) (hc : Cond.codeWith y cc maxL ret hh ∈ xWS) (hn : (xsl as).length ≤ maxL)
    (h : Wp G l d (y, cc, maxL, ret, hh) 0 (xent maxL as) [] P Q) : Ct G l d (y, cc, maxL, ret, hh) as P Q := by
  refine MetFree.of_bodyS (code := cc) (maxLocals := maxL) (ret := ret) hy ?_ ?_
  · intro args s m h hn
    obtain ⟨m9, meth, c, h0, h1, h2, h3, h4, -, h5, h6, -⟩ := Cond.codeWith_spec (args := args) (first := s) (o := none) (idx := []) (atoms_spec (ws := xWS) h _ hc)
    cases Option.some.inj (h0.symm.trans hn)
    exact ⟨meth, c, h1, h2, h3, h4, h5, h6⟩
  · intro p e s m args below meth c s₁ B hml hPc _
    obtain ⟨rfl, hR, hS⟩ := hPc
    have hh0 : s₁.heap = s.heap := by rw [B.state]; rfl
    have hts := atoms_spec (ws := xWS) B.pre
    have htab : c.exceptionTable.toList = tableOf hh := vx_table B (x := y) (hts _ hc)
    have hE : xE G l d (y, cc, maxL, ret, hh) p s m ((as.map (xv G)).toArray) meth c (headSpec xWS (xRm d P)).room :=
      ⟨B.exec, B.bytes, hml, B.returns, B.notSynchronized, htab, findClass_of_methodNamed B.named, (name_of_methodNamed B.named B.method).1, hts, hS, Nat.le_refl _, Nat.le_refl _, hl⟩
    have K := h p e s m ((as.map (xv G)).toArray) below meth c (headSpec xWS (xRm d P)).room P.1 P.2.1 hE ⟨Nat.sub_add_cancel hR.2.2.2.1, Nat.sub_add_cancel hR.2.2.2.2, hR.1⟩ s.heap [] 0 0 _ (Nat.zero_add _) (Nat.zero_add _) (xent_lr G as hn) (by simp [xent]; omega) hR va_S.rf
    rw [← hh0, List.map_nil, ← lg_entry_eq] at K
    obtain ⟨t, a1, o, b1, b2, b3⟩ := K s₁ rfl (Stand.of_body B)
    exact ⟨t, o, a1, b1, b2, b3⟩
/-! what comes back from a call under handlers; the script -/
def xIh (r : xR × xH) (H : Nat → Nat → xH → xO) (k : Int32 → xH → xO) : xO := match r with
  | (.inl (some (.int v)), P) => k v P
  | (.inr i, P) => (xcat P i).bind fun c => H c i P
  | _ => none
def xUh (r : xR × xH) (H : Nat → Nat → xH → xO) (k : xH → xO) : xO := match r with
  | (.inl none, P) => k P
  | (.inr i, P) => (xcat P i).bind fun c => H c i P
  | _ => none
theorem xIh_ok {r : xR × xH} {H : Nat → Nat → xH → xO} {k : Int32 → xH → xO} {z : xR × xH} (h : xIh r H k = some z) : (∃ v P, r = (.inl (some (.int v)), P) ∧ k v P = some z) ∨ ∃ i P c, r = (.inr i, P) ∧ xcat P i = some c ∧ H c i P = some z := by
  unfold xIh at h
  split at h
  · exact Or.inl ⟨_, _, rfl, h⟩
  · obtain ⟨c, h1, h2⟩ := Option.bind_eq_some_iff.mp h
    exact Or.inr ⟨_, _, c, rfl, h1, h2⟩
  · cases h
theorem xUh_ok {r : xR × xH} {H : Nat → Nat → xH → xO} {k : xH → xO} {z : xR × xH} (h : xUh r H k = some z) : (∃ P, r = (.inl none, P) ∧ k P = some z) ∨ ∃ i P c, r = (.inr i, P) ∧ xcat P i = some c ∧ H c i P = some z := by
  unfold xUh at h
  split at h
  · exact Or.inl ⟨_, rfl, h⟩
  · obtain ⟨c, h1, h2⟩ := Option.bind_eq_some_iff.mp h
    exact Or.inr ⟨_, _, c, rfl, h1, h2⟩
  · cases h
def rS (N : Nat) (sc : Nat → Int32) (i : Int32) : Option Int32 := if i < 0 ∨ N ≤ i.toNatClampNeg then none else some (sc i.toNatClampNeg)
theorem k_rS {G : xG} {l : Launch} {d : Nat} {M : xM} {pc : Nat} {L : xL} {st : List Value} {P : xH} {Q : xR → xH → Prop} {i v : Int32} (h : rS G.2.2.2.2.1 G.2.2.2.2.2 i = some v) (hd : decode M.2.1 pc = .ok (.iaload, 1)) (K : Wp G l d M (pc + 1) L (.int v :: st) P Q) : Wp G l d M pc L (.int i :: .retAddr 0 :: st) P Q := by
  unfold rS at h
  split at h
  · cases h
  · rename_i hin
    cases h
    exact x_sld hd hin K
