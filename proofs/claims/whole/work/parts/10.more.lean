section XM
variable {G : xG} {l : Launch} {d d' : Nat} {M M' : xM} {pc : Nat} {L : xL} {stk st : List Value} {P : xH} {Q Q' : xR → xH → Prop}
/-- Object's own constructor -/
theorem x_objInit {idx a : Nat} (hd : decode M.2.1 pc = .ok (.invokespecial idx, 3)) (w1 : Cond.methodLink M.1.cls idx Jvm.Lib.objectInit ∈ xWS) (w2 : Cond.instanceMethod Jvm.Lib.objectInit ∈ xWS) (w3 : Cond.code Jvm.Lib.objectInit ⟨#[0xb1]⟩ 1 none ∈ xWS) (hst : (st.map fun v => v.category).sum ≤ 8) (hdd : 1 ≤ d)
    (K : Wp G l d M (pc + 3) L st P Q) : Wp G l d M pc L (.ref a :: st) P Q := by
  intro p e s m args below meth c R n0 k0 hE hB H locs cells slots ls h3 h4 h5 h6 h7 h8
  have K := K p e s m args below meth c R n0 k0 hE hB H locs cells slots ls h3 h4 h5 h6 h7 h8
  obtain ⟨hx, hb, hml, hr, hlk, htb, hown, hnm, hts, hS, hRf, hRl, hl⟩ := hE
  have h9 := x_wt (G := G) (pc := pc) (m := m) (ls := ls) (st0 := (Value.ref a :: st).map (xv G)) hst
  exact W.objInit hx hb hown (hts _ w1) (hts _ w2) (hts _ w3) rfl (h5.1.trans (h6.trans hml.symm)) rfl hd (by omega) (by omega) K
/-- a constructor -/
theorem x_callI {idx n a : Nat} {as : List Value} (hC : Ct G l d' M' (.ref a :: as) P Q') (hd : decode M.2.1 pc = .ok (.invokespecial idx, 3)) (hw : xCw M' n) (hi : M'.1.name = "<init>") (hr' : M'.2.2.2.1 = none) (w1 : Cond.methodLink M.1.cls idx M'.1 ∈ xWS) (w2 : Cond.instanceMethod M'.1 ∈ xWS) (hn : as.length = n)
    (hdd : d' < d) (hml' : M'.2.2.1 ≤ 45) (hs : stk = as.reverse ++ .ref a :: st) (hst : (st.map fun v => v.category).sum ≤ 8) (hno : ∀ i P', ¬ Q' (.inr i) P')
    (K : ∀ v P', Q' (.inl v) P' → Wp G l d M (pc + 3) L (v.toList ++ st) P' Q) : Wp G l d M pc L stk P Q := by
  subst hs
  intro p e s m args below meth c R n0 k0 hE hB H locs cells slots ls h3 h4 h5 h6 h7 h8 T hT X
  obtain ⟨hx, hb, hml, hr, hlk, htb, hown, hnm, hts, hS, hRf, hRl, hl⟩ := id hE
  have hK : Back l R p e below s args M'.1 3 8 (xPre G R (.ref a :: as) P) (xPostR G P Q') := xp_backR (xp_back hC (by omega) (by omega) hts hw.cd hw.2.1) hno
  have hmap : (as.reverse ++ .ref a :: st).map (xv G) = (as.map (xv G)).reverse ++ .ref (G.1 + a) :: st.map (xv G) := by simp [xv_ref]
  have hcode : (Cond.code M'.1 M'.2.1 M'.2.2.1 none).before args s = true := by have := hts _ hw.1; rwa [hr'] at this
  obtain ⟨v, vm₁, B, hW₁, X', ⟨v0, rfl, hp⟩, st1⟩ := callI X hx (bytes := M'.2.1) (maxL := M'.2.2.1) hown hi (hts _ w1) (hts _ w2) hcode hw.2.2.1 hK
    (g := F0 m pc ls ((as.reverse ++ .ref a :: st).map (xv G))) rfl (h5.1.trans (h6.trans hml.symm)) (a := G.1 + a) (argsL := as.map (xv G)) (rest := st.map (xv G)) (fun sig h => by rw [List.length_map]; exact hw.len hn sig h) hmap (x_wt hst) (by rw [hb]; exact hd)
    (fun vm₁ hW₁ => x_pre hS hB h3 h4 h7 h8 hT vm₁ hW₁)
  obtain ⟨t, a1, b1⟩ := x_back (pc' := pc + 3) (st' := v0.toList ++ st) hE hB h3 h4 h5 h6 h8 hT X' hp (K v0)
  refine ⟨t, st1 t ?_, b1⟩
  rw [show (v0.map (xv G)).toList ++ st.map (xv G) = (v0.toList ++ st).map (xv G) by cases v0 <;> simp]
  exact a1
/-- .. a private one of a nest mate -/
theorem x_callIN {host : String} {idx n a : Nat} {as : List Value} (hC : Ct G l d' M' (.ref a :: as) P Q') (hd : decode M.2.1 pc = .ok (.invokespecial idx, 3)) (hw : xCw M' n) (hi : M'.1.name = "<init>") (hr' : M'.2.2.2.1 = none) (w1 : Cond.methodLinkNest M.1.cls idx M'.1 host ∈ xWS) (w2 : Cond.instanceMethod M'.1 ∈ xWS) (hn : as.length = n)
    (hdd : d' < d) (hml' : M'.2.2.1 ≤ 45) (hs : stk = as.reverse ++ .ref a :: st) (hst : (st.map fun v => v.category).sum ≤ 8) (hno : ∀ i P', ¬ Q' (.inr i) P')
    (K : ∀ v P', Q' (.inl v) P' → Wp G l d M (pc + 3) L (v.toList ++ st) P' Q) : Wp G l d M pc L stk P Q := by
  subst hs
  intro p e s m args below meth c R n0 k0 hE hB H locs cells slots ls h3 h4 h5 h6 h7 h8 T hT X
  obtain ⟨hx, hb, hml, hr, hlk, htb, hown, hnm, hts, hS, hRf, hRl, hl⟩ := id hE
  have hK : Back l R p e below s args M'.1 3 8 (xPre G R (.ref a :: as) P) (xPostR G P Q') := xp_backR (xp_back hC (by omega) (by omega) hts hw.cd hw.2.1) hno
  have hmap : (as.reverse ++ .ref a :: st).map (xv G) = (as.map (xv G)).reverse ++ .ref (G.1 + a) :: st.map (xv G) := by simp [xv_ref]
  have hcode : (Cond.code M'.1 M'.2.1 M'.2.2.1 none).before args s = true := by have := hts _ hw.1; rwa [hr'] at this
  obtain ⟨v, vm₁, B, hW₁, X', ⟨v0, rfl, hp⟩, st1⟩ := va_callIN X hx (bytes := M'.2.1) (maxL := M'.2.2.1) hown hi (hts _ w1) (hts _ w2) hcode hw.2.2.1 hK
    (g := F0 m pc ls ((as.reverse ++ .ref a :: st).map (xv G))) rfl (h5.1.trans (h6.trans hml.symm)) (a := G.1 + a) (argsL := as.map (xv G)) (rest := st.map (xv G)) (fun sig h => by rw [List.length_map]; exact hw.len hn sig h) hmap (x_wt hst) (by rw [hb]; exact hd)
    (fun vm₁ hW₁ => x_pre hS hB h3 h4 h7 h8 hT vm₁ hW₁)
  obtain ⟨t, a1, b1⟩ := x_back (pc' := pc + 3) (st' := v0.toList ++ st) hE hB h3 h4 h5 h6 h8 hT X' hp (K v0)
  refine ⟨t, st1 t ?_, b1⟩
  rw [show (v0.map (xv G)).toList ++ st.map (xv G) = (v0.toList ++ st).map (xv G) by cases v0 <;> simp]
  exact a1
/-- a private static method of a nest mate -/
theorem x_callSN {host : String} {idx n : Nat} {as : List Value} (hC : Ct G l d' M' as P Q') (hd : decode M.2.1 pc = .ok (.invokestatic idx, 3)) (hw : xCw M' n) (w1 : Cond.methodLinkNest M.1.cls idx M'.1 host ∈ xWS) (w2 : Cond.static M'.1 ∈ xWS) (hn : as.length = n)
    (hdd : d' < d) (hml' : M'.2.2.1 ≤ 45) (hs : stk = as.reverse ++ st) (hst : (st.map fun v => v.category).sum ≤ 8) (hno : ∀ i P', ¬ Q' (.inr i) P')
    (K : ∀ v P', Q' (.inl v) P' → Wp G l d M (pc + 3) L (v.toList ++ st) P' Q) : Wp G l d M pc L stk P Q := by
  subst hs
  intro p e s m args below meth c R n0 k0 hE hB H locs cells slots ls h3 h4 h5 h6 h7 h8 T hT X
  obtain ⟨hx, hb, hml, hr, hlk, htb, hown, hnm, hts, hS, hRf, hRl, hl⟩ := id hE
  have hK : Back l R p e below s args M'.1 3 8 (xPre G R as P) (xPostR G P Q') := xp_backR (xp_back hC (by omega) (by omega) hts hw.cd hw.2.1) hno
  have hmap : (as.reverse ++ st).map (xv G) = (as.map (xv G)).reverse ++ st.map (xv G) := by simp
  obtain ⟨v, vm₁, B, hW₁, X', ⟨v0, rfl, hp⟩, st1⟩ := va_callSN X hx (bytes := M'.2.1) (maxL := M'.2.2.1) (ret := M'.2.2.2.1) hown (hts _ w1) (hts _ w2) (hts _ hw.2.1) (hts _ hw.1) hw.2.2.1 hK
    (g := F0 m pc ls ((as.reverse ++ st).map (xv G))) rfl (h5.1.trans (h6.trans hml.symm)) (argsL := as.map (xv G)) (rest := st.map (xv G)) (fun sig h => by rw [List.length_map]; exact hw.len hn sig h) hmap (x_wt hst) (by rw [hb]; exact hd)
    (fun vm₁ hW₁ => x_pre hS hB h3 h4 h7 h8 hT vm₁ hW₁)
  obtain ⟨t, a1, b1⟩ := x_back (pc' := pc + 3) (st' := v0.toList ++ st) hE hB h3 h4 h5 h6 h8 hT X' hp (K v0)
  refine ⟨t, st1 t ?_, b1⟩
  rw [show (v0.map (xv G)).toList ++ st.map (xv G) = (v0.toList ++ st).map (xv G) by cases v0 <;> simp]
  exact a1
theorem x_nn (z : Int32) (hz : ¬ z < 0) : z.toInt = (z.toNatClampNeg : Int) := (Int.toNat_of_nonneg (Int32.le_iff_toInt_le.mp (Int32.not_lt.mp hz))).symm
/-- System.arraycopy of ints -/
theorem x_copyI {idx a b na nb : Nat} {f g : Nat → Int32} {sp dp n : Int32} (hd : decode M.2.1 pc = .ok (.invokestatic idx, 3)) (w1 : Cond.methodLink M.1.cls idx arraycopyName ∈ xWS) (w2 : Cond.native arraycopyName ∈ xWS) (w3 : Cond.static arraycopyName ∈ xWS) (w4 : Cond.initialized "java/lang/System" ∈ xWS)
    (ha : P.2.2 a = .inl (.int, na, .inl f)) (hb' : P.2.2 b = .inl (.int, nb, .inl g)) (i1 : ¬ sp < 0) (i2 : ¬ dp < 0) (i3 : ¬ n < 0) (i4 : sp.toNatClampNeg + n.toNatClampNeg ≤ na) (i5 : dp.toNatClampNeg + n.toNatClampNeg ≤ nb) (hst : (st.map fun v => v.category).sum ≤ 8) (hdd : 2 ≤ d)
    (K : Wp G l d M (pc + 3) L st (xput P b (.inl (.int, nb, .inl (va_cpy f g sp.toNatClampNeg dp.toNatClampNeg n.toNatClampNeg)))) Q) : Wp G l d M pc L (.int n :: .int dp :: .ref b :: .int sp :: .ref a :: st) P Q := by
  intro p e s m args below meth c R n0 k0 hE hB H locs cells slots ls h3 h4 h5 h6 h7 h8 T hT X
  obtain ⟨hx, hb, hml, hr, hlk, htb, hown, hnm, hts, hS, hRf, hRl, hl⟩ := id hE
  have hc0 : H[G.1 + a]? = some (arrV (G.2.2.1 .int) na (fun j => .int (f j))) := h7.at ha (by intro q; cases q)
  have hc1 : H[G.1 + b]? = some (arrV (G.2.2.1 .int) nb (fun j => .int (g j))) := h7.at hb' (by intro q; cases q)
  obtain ⟨-, kk0, hk0, cm0, hkk0⟩ := xK_at hS 0 (ty := .int) rfl na (fun j => .int (f j))
  obtain ⟨-, kk1, hk1, cm1, hkk1⟩ := xK_at hS 0 (ty := .int) rfl nb (fun j => .int (g j))
  have h9 := x_wt (G := G) (pc := pc) (m := m) (ls := ls) (st0 := []) hst
  have h9 : ((st.map (xv G)).map fun v => v.category).sum ≤ 8 := by omega
  have hnw : nativeFrameWords "java/lang/System" "arraycopy" 5 ≤ 60 := by decide +kernel
  obtain ⟨vm', X', step⟩ := X.arraycopy hx hown (hts _ w1) (hts _ w2) (hts _ w3) (hts _ w4) (src := G.1 + a) (dst := G.1 + b) (cs := arrV (G.2.2.1 .int) na (fun j => .int (f j))) (cd := arrV (G.2.2.1 .int) nb (fun j => .int (g j))) (srcPos := sp) (destPos := dp) (n := n) (by rw [hT]; exact hc0) (by rw [hT]; exact hc1)
    nofun nofun nofun nofun hk0 hk1 hkk0 hkk1 (by simp [refKind]) i1 i2 i3
    (by rw [x_nn sp i1, x_nn n i3, arrV_size]; omega)
    (by rw [x_nn dp i2, x_nn n i3, arrV_size]; omega)
    (fun vm₁ _ i hi => by
      have e : (arrV (G.2.2.1 .int) na (fun j => .int (f j))).slots.getD (sp.toNatClampNeg + i) .null = .int (f (sp.toNatClampNeg + i)) := by
        rw [Array.getD_eq_getD_getElem?, arrV_read _ _ (by omega)]
        rfl
      refine ⟨?_, ?_⟩
      · rw [e]; rfl
      · rw [e]; exact trivial)
    (g := F0 m pc ls ((.int n :: .int dp :: .ref b :: .int sp :: .ref a :: st).map (xv G))) rfl (h5.1.trans (h6.trans hml.symm)) (rest := st.map (xv G)) rfl (by rw [hb]; exact hd) (by omega) (by show 2 * 0 + _ + _ ≤ _; omega)
  have e1 : copied (arrV (G.2.2.1 .int) na (fun j => .int (f j))) (arrV (G.2.2.1 .int) nb (fun j => .int (g j))) sp dp n = arrV (G.2.2.1 .int) nb (fun j => .int (va_cpy f g sp.toNatClampNeg dp.toNatClampNeg n.toNatClampNeg j)) := va_copied (fun z => .int z) _ _ f g i4
  rw [e1] at X' step
  have hl2 : G.1 + b < H.size := (Array.getElem?_eq_some_iff.mp hc1).1
  obtain ⟨H1, hH1⟩ : ∃ z, z = H.setIfInBounds (G.1 + b) (arrV (G.2.2.1 .int) nb (fun j => .int (va_cpy f g sp.toNatClampNeg dp.toNatClampNeg n.toNatClampNeg j))) := ⟨_, rfl⟩
  have hheap : ((T.setVm vm').setCell (G.1 + b) (arrV (G.2.2.1 .int) nb (fun j => .int (va_cpy f g sp.toNatClampNeg dp.toNatClampNeg n.toNatClampNeg j)))).heap = H1 := by rw [hH1, ← hT]; rfl
  have oq : ∀ q : Nat, q ≠ G.1 + b → H1[q]? = H[q]? := fun q hq => by rw [hH1]; simp [Array.getElem?_setIfInBounds, Ne.symm hq]
  have hz : H1.size = H.size := by rw [hH1]; simp
  have hat : H1[G.1 + b]? = some (arrV (G.2.2.1 .int) nb (fun j => .int (va_cpy f g sp.toNatClampNeg dp.toNatClampNeg n.toNatClampNeg j))) := by rw [hH1]; simp [Array.getElem?_setIfInBounds, hl2]
  obtain ⟨t, a1, b1⟩ := K p e s m args below meth c R n0 k0 hE hB H1 _ cells slots ls h3 h4 h5 h6 (h7.put (h7.lt (by rw [hb']; intro q; cases q)) hz oq hat) ⟨by rw [hz]; exact h8.1, fun q g1 g2 => (oq q (fun e9 => g2 (by rw [e9]; exact Nat.le_add_right _ _))).trans (h8.2.1 q g1 g2), fun q hq => by
      rcases List.mem_append.mp hq with h | h
      · exact h8.2.2 q h
      · obtain ⟨z, -, hz⟩ := List.mem_map.mp h
        rw [← hz]
        exact Nat.le_add_right _ _⟩ _ hheap X'
  exact ⟨t, step t a1, b1⟩
/-- .. of longs -/
theorem x_copyJ {idx a b na nb : Nat} {f g : Nat → Int64} {sp dp n : Int32} (hd : decode M.2.1 pc = .ok (.invokestatic idx, 3)) (w1 : Cond.methodLink M.1.cls idx arraycopyName ∈ xWS) (w2 : Cond.native arraycopyName ∈ xWS) (w3 : Cond.static arraycopyName ∈ xWS) (w4 : Cond.initialized "java/lang/System" ∈ xWS)
    (ha : P.2.2 a = .inl (.long, na, .inr (.inl f))) (hb' : P.2.2 b = .inl (.long, nb, .inr (.inl g))) (i1 : ¬ sp < 0) (i2 : ¬ dp < 0) (i3 : ¬ n < 0) (i4 : sp.toNatClampNeg + n.toNatClampNeg ≤ na) (i5 : dp.toNatClampNeg + n.toNatClampNeg ≤ nb) (hst : (st.map fun v => v.category).sum ≤ 8) (hdd : 2 ≤ d)
    (K : Wp G l d M (pc + 3) L st (xput P b (.inl (.long, nb, .inr (.inl (va_cpy f g sp.toNatClampNeg dp.toNatClampNeg n.toNatClampNeg))))) Q) : Wp G l d M pc L (.int n :: .int dp :: .ref b :: .int sp :: .ref a :: st) P Q := by
  intro p e s m args below meth c R n0 k0 hE hB H locs cells slots ls h3 h4 h5 h6 h7 h8 T hT X
  obtain ⟨hx, hb, hml, hr, hlk, htb, hown, hnm, hts, hS, hRf, hRl, hl⟩ := id hE
  have hc0 : H[G.1 + a]? = some (arrV (G.2.2.1 .long) na (fun j => .long (f j))) := h7.at ha (by intro q; cases q)
  have hc1 : H[G.1 + b]? = some (arrV (G.2.2.1 .long) nb (fun j => .long (g j))) := h7.at hb' (by intro q; cases q)
  obtain ⟨-, kk0, hk0, cm0, hkk0⟩ := xK_at hS 2 (ty := .long) rfl na (fun j => .long (f j))
  obtain ⟨-, kk1, hk1, cm1, hkk1⟩ := xK_at hS 2 (ty := .long) rfl nb (fun j => .long (g j))
  have h9 := x_wt (G := G) (pc := pc) (m := m) (ls := ls) (st0 := []) hst
  have h9 : ((st.map (xv G)).map fun v => v.category).sum ≤ 8 := by omega
  have hnw : nativeFrameWords "java/lang/System" "arraycopy" 5 ≤ 60 := by decide +kernel
  obtain ⟨vm', X', step⟩ := X.arraycopy hx hown (hts _ w1) (hts _ w2) (hts _ w3) (hts _ w4) (src := G.1 + a) (dst := G.1 + b) (cs := arrV (G.2.2.1 .long) na (fun j => .long (f j))) (cd := arrV (G.2.2.1 .long) nb (fun j => .long (g j))) (srcPos := sp) (destPos := dp) (n := n) (by rw [hT]; exact hc0) (by rw [hT]; exact hc1)
    nofun nofun nofun nofun hk0 hk1 hkk0 hkk1 (by simp [refKind]) i1 i2 i3
    (by rw [x_nn sp i1, x_nn n i3, arrV_size]; omega)
    (by rw [x_nn dp i2, x_nn n i3, arrV_size]; omega)
    (fun vm₁ _ i hi => by
      have e : (arrV (G.2.2.1 .long) na (fun j => .long (f j))).slots.getD (sp.toNatClampNeg + i) .null = .long (f (sp.toNatClampNeg + i)) := by
        rw [Array.getD_eq_getD_getElem?, arrV_read _ _ (by omega)]
        rfl
      refine ⟨?_, ?_⟩
      · rw [e]; rfl
      · rw [e]; exact trivial)
    (g := F0 m pc ls ((.int n :: .int dp :: .ref b :: .int sp :: .ref a :: st).map (xv G))) rfl (h5.1.trans (h6.trans hml.symm)) (rest := st.map (xv G)) rfl (by rw [hb]; exact hd) (by omega) (by show 2 * 0 + _ + _ ≤ _; omega)
  have e1 : copied (arrV (G.2.2.1 .long) na (fun j => .long (f j))) (arrV (G.2.2.1 .long) nb (fun j => .long (g j))) sp dp n = arrV (G.2.2.1 .long) nb (fun j => .long (va_cpy f g sp.toNatClampNeg dp.toNatClampNeg n.toNatClampNeg j)) := va_copied (fun z => .long z) _ _ f g i4
  rw [e1] at X' step
  have hl2 : G.1 + b < H.size := (Array.getElem?_eq_some_iff.mp hc1).1
  obtain ⟨H1, hH1⟩ : ∃ z, z = H.setIfInBounds (G.1 + b) (arrV (G.2.2.1 .long) nb (fun j => .long (va_cpy f g sp.toNatClampNeg dp.toNatClampNeg n.toNatClampNeg j))) := ⟨_, rfl⟩
  have hheap : ((T.setVm vm').setCell (G.1 + b) (arrV (G.2.2.1 .long) nb (fun j => .long (va_cpy f g sp.toNatClampNeg dp.toNatClampNeg n.toNatClampNeg j)))).heap = H1 := by rw [hH1, ← hT]; rfl
  have oq : ∀ q : Nat, q ≠ G.1 + b → H1[q]? = H[q]? := fun q hq => by rw [hH1]; simp [Array.getElem?_setIfInBounds, Ne.symm hq]
  have hz : H1.size = H.size := by rw [hH1]; simp
  have hat : H1[G.1 + b]? = some (arrV (G.2.2.1 .long) nb (fun j => .long (va_cpy f g sp.toNatClampNeg dp.toNatClampNeg n.toNatClampNeg j))) := by rw [hH1]; simp [Array.getElem?_setIfInBounds, hl2]
  obtain ⟨t, a1, b1⟩ := K p e s m args below meth c R n0 k0 hE hB H1 _ cells slots ls h3 h4 h5 h6 (h7.put (h7.lt (by rw [hb']; intro q; cases q)) hz oq hat) ⟨by rw [hz]; exact h8.1, fun q g1 g2 => (oq q (fun e9 => g2 (by rw [e9]; exact Nat.le_add_right _ _))).trans (h8.2.1 q g1 g2), fun q hq => by
      rcases List.mem_append.mp hq with h | h
      · exact h8.2.2 q h
      · obtain ⟨z, -, hz⟩ := List.mem_map.mp h
        rw [← hz]
        exact Nat.le_add_right _ _⟩ _ hheap X'
  exact ⟨t, step t a1, b1⟩
/-- new int[n][k]: the outer array, then its rows -/
def xmna (P : xH) (N K : Nat) : xH := (P.1 + 1 + N, P.2.1 + N + N * K, fun j => if j = P.1 then .inl (.array .int, N, .inr (.inr (fun i => if i < N then some (P.1 + 1 + i) else none))) else if P.1 < j ∧ j < P.1 + 1 + N then .inl (.int, K, .inl (fun _ => 0)) else P.2.2 j)
theorem x_mna {idx N K' : Nat} {n k : Int32} (hd : decode M.2.1 pc = .ok (.multianewarray idx 2, 4)) (w1 : Cond.classLink M.1.cls idx "[[I" ∈ xWS) (w2 : Cond.arrayClass .int ∈ xWS) (hn : ¬ n < 0) (hk : ¬ k < 0) (hN : n.toNatClampNeg = N) (hK : k.toNatClampNeg = K') (hb1 : N * 4 ≤ 536870912) (hb2 : K' * 4 ≤ 536870912) (r1 : P.1 + 1 + N ≤ 601024) (r2 : P.2.1 + N + N * K' ≤ 7293034)
    (K : Wp G l d M (pc + 4) L (.ref P.1 :: st) (xmna P N K') Q) : Wp G l d M pc L (.int k :: .int n :: st) P Q := by
  subst hN
  subst hK
  intro p e s m args below meth c R n0 k0 hE hB H locs cells slots ls h3 h4 h5 h6 h7 h8 T hT X
  obtain ⟨hx, hb, hml, hr, hlk, htb, hown, hnm, hts, hS, hRf, hRl, hl⟩ := id hE
  obtain ⟨b1, b2, b3⟩ := id hB
  have b1 : R.cells + n0 = 601024 := b1
  have b2 : R.slots + k0 = 7293034 := b2
  have hsz : H.size = G.1 + P.1 := h7.1
  have hov : (Cond.arrayOver (.array .int)).before args s = true := hS.2.2.2.2.2.2.2.2.2.2.2.2
  obtain ⟨vm₁, cA, comp, -, fA, fC, hO, -, X', step⟩ := X.multianewarray2F hx hown (ty := .int) (hts _ w1) hov (hts _ w2) (g := F0 m pc ls ((.int k :: .int n :: st).map (xv G))) rfl (by rw [hb]; exact hd) rfl hn hk hb1 hb2 (by omega) rfl rfl (by omega) (by omega)
  have eA : cA = G.2.2.1 (.array .int) := Option.some.inj (fA.symm.trans (hS.1.2 4 _ rfl).2)
  have eC : comp = G.2.2.1 .int := Option.some.inj (fC.symm.trans (hS.1.2 0 _ rfl).2)
  subst eA
  subst eC
  generalize hF : Jvm.Free.Multi.fill (T.setVm vm₁) (G.2.2.1 (.array .int)) (G.2.2.1 .int) n.toNatClampNeg k.toNatClampNeg (defaultValue .int) n.toNatClampNeg = F at X' step
  have hTh : (T.setVm vm₁).heap = H := hT
  obtain ⟨f1, f2, -, -⟩ := Jvm.Free.Multi.fill_facts (T.setVm vm₁) (G.2.2.1 (.array .int)) (G.2.2.1 .int) n.toNatClampNeg k.toNatClampNeg (defaultValue .int) n.toNatClampNeg
  rw [hF, hTh] at f1 f2
  have hold : ∀ x : Nat, x < H.size → F.heap[x]? = H[x]? := fun x hx => by
    have := Jvm.Free.Multi.fill_old (T.setVm vm₁) (G.2.2.1 (.array .int)) (G.2.2.1 .int) n.toNatClampNeg k.toNatClampNeg (defaultValue .int) (a := x) (by rw [hTh]; exact hx) n.toNatClampNeg
    rw [hF, hTh] at this
    exact this
  have hrow : ∀ j : Nat, j < n.toNatClampNeg → F.heap[H.size + 1 + j]? = some (Jvm.Free.Multi.innerC (G.2.2.1 .int) k.toNatClampNeg (defaultValue .int)) := fun j hj => by
    have := Jvm.Free.Multi.fill_inner (T.setVm vm₁) (G.2.2.1 (.array .int)) (G.2.2.1 .int) n.toNatClampNeg k.toNatClampNeg (defaultValue .int) n.toNatClampNeg j hj
    rw [hF, hTh] at this
    exact this
  rw [vr_outer] at f2
  have hFs : F.heap.size = H.size + 1 + n.toNatClampNeg := f1
  have hrel : xRel G (xmna P n.toNatClampNeg k.toNatClampNeg) F.heap := by
    refine ⟨by rw [hFs, hsz]; show _ = G.1 + (P.1 + 1 + n.toNatClampNeg); omega, fun j hj => ?_, fun j hj => ?_, r1, r2⟩
    · have hj : j < P.1 + 1 + n.toNatClampNeg := hj
      show xat G (G.1 + j) (if j = P.1 then _ else if P.1 < j ∧ j < P.1 + 1 + n.toNatClampNeg then _ else P.2.2 j) F.heap
      by_cases e1 : j = P.1
      · subst e1
        rw [if_pos rfl]
        show F.heap[G.1 + P.1]? = some (arrV (G.2.2.1 (.array .int)) n.toNatClampNeg (fun j => va_rf ((if j < n.toNatClampNeg then some (P.1 + 1 + j) else none).map (fun i => G.1 + i))))
        rw [← hsz, f2]
        refine congrArg some (congrArg (arrV _ _) (funext fun q => ?_))
        by_cases hq : q < n.toNatClampNeg
        · rw [if_pos hq, if_pos hq]
          show Value.ref (H.size + 1 + q) = Value.ref (G.1 + (P.1 + 1 + q))
          rw [hsz]
          simp only [Nat.add_assoc]
        · rw [if_neg hq, if_neg hq]
          rfl
      · rw [if_neg e1]
        by_cases e2 : P.1 < j ∧ j < P.1 + 1 + n.toNatClampNeg
        · rw [if_pos e2]
          have h9 := hrow (j - (P.1 + 1)) (by omega)
          rw [show H.size + 1 + (j - (P.1 + 1)) = G.1 + j by omega] at h9
          show F.heap[G.1 + j]? = some (arrV (G.2.2.1 .int) k.toNatClampNeg (fun _ => .int 0))
          rw [h9]
          refine congrArg some ?_
          exact arrV_new _ _ _
        · rw [if_neg e2]
          exact (h7.2.1 j (by omega)).kept (hold _ (by omega))
    · have hj : P.1 + 1 + n.toNatClampNeg ≤ j := hj
      show (if j = P.1 then _ else if P.1 < j ∧ j < P.1 + 1 + n.toNatClampNeg then _ else P.2.2 j) = _
      rw [if_neg (by omega), if_neg (by omega)]
      exact h7.2.2.1 j (by omega)
  obtain ⟨t, a1, b1⟩ := K p e s m args below meth c R n0 k0 hE hB F.heap locs _ _ ls (by show cells + 1 + n.toNatClampNeg + n0 = P.1 + 1 + n.toNatClampNeg; omega) (by show slots + n.toNatClampNeg + n.toNatClampNeg * k.toNatClampNeg + k0 = P.2.1 + n.toNatClampNeg + n.toNatClampNeg * k.toNatClampNeg; omega) h5 h6 hrel ⟨by rw [hFs]; have := h8.1; omega, fun q g1 g2 => (hold q (by have := h8.1; omega)).trans (h8.2.1 q g1 g2), h8.2.2⟩ F rfl X'
  refine ⟨t, step t ?_, b1⟩
  have e9 : (Value.ref T.heap.size) = xv G (.ref P.1) := by rw [hT, hsz]; rfl
  rw [e9]
  exact a1
/-- a text -/
theorem x_lds {i is : Nat} {text : String} (hi : xStr[i]? = some (M.1.cls, is, text)) (hd : decode M.2.1 pc = .ok (.ldc is, 2)) (K : Wp G l d M (pc + 2) L (.retAddr (i + 1) :: st) P Q) : Wp G l d M pc L st P Q := by
  intro p e s m args below meth c R n0 k0 hE hB H locs cells slots ls h3 h4 h5 h6 h7 h8 T hT X
  have K := K p e s m args below meth c R n0 k0 hE hB H locs cells slots ls h3 h4 h5 h6 h7 h8 T hT X
  obtain ⟨hx, hb, hml, hr, hlk, htb, hown, hnm, hts, hS, hRf, hRl, hl⟩ := id hE
  obtain ⟨t, a1, b1⟩ := K
  have hstr := hS.2.2.2.1 i _ hi
  exact ⟨t, X.ldcString hx (own := M.1.cls) (text := text) (index := is) (a := G.2.2.2.1 (i + 1)) hown hstr.1 hstr.2 (g := F0 m pc ls (st.map (xv G))) rfl (by rw [hb]; exact hd) _ a1, b1⟩
theorem x_ldsw {i is : Nat} {text : String} (hi : xStr[i]? = some (M.1.cls, is, text)) (hd : decode M.2.1 pc = .ok (.ldc_w is, 3)) (K : Wp G l d M (pc + 3) L (.retAddr (i + 1) :: st) P Q) : Wp G l d M pc L st P Q := by
  intro p e s m args below meth c R n0 k0 hE hB H locs cells slots ls h3 h4 h5 h6 h7 h8 T hT X
  have K := K p e s m args below meth c R n0 k0 hE hB H locs cells slots ls h3 h4 h5 h6 h7 h8 T hT X
  obtain ⟨hx, hb, hml, hr, hlk, htb, hown, hnm, hts, hS, hRf, hRl, hl⟩ := id hE
  obtain ⟨t, a1, b1⟩ := K
  have hstr := hS.2.2.2.1 i _ hi
  exact ⟨t, X.ldcStringW hx (own := M.1.cls) (text := text) (index := is) (a := G.2.2.2.1 (i + 1)) hown hstr.1 hstr.2 (g := F0 m pc ls (st.map (xv G))) rfl (by rw [hb]; exact hd) _ a1, b1⟩
end XM
