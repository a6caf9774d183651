theorem xne {ci : Nat} {fs : List Value} (h : ci < 12) : (Sum.inr (ci, fs) : xC) ≠ .inr (99, []) := by
  intro q
  injection q with q
  injection q with q _
  omega
theorem xK_at {G : xG} {s : State} (h : xS G s) (t : Nat) {ty : FieldType} (ht : (xTys G)[t]? = some (G.2.2.1 ty, ty)) : ArrOfT s (G.2.2.1 ty) ty := (h.1.2 t _ ht).1
section XH
variable {G : xG} {l : Launch} {d : Nat} {M : xM} {pc : Nat} {L : xL} {st : List Value} {P : xH} {Q : xR → xH → Prop}
theorem x_getf {a ci k idx : Nat} {fs : List Value} {v : Value} (hd : decode M.2.1 pc = .ok (.getfield idx, 3)) (hF : xF M.1.cls idx ci k) (hc : P.2.2 a = .inr (ci, fs)) (hv : fs[k]? = some v) (K : Wp G l d M (pc + 3) L (v :: st) P Q) : Wp G l d M pc L (.ref a :: st) P Q := by
  intro p e s m args below meth c R n0 k0 hE hB H locs cells slots ls h3 h4 h5 h6 h7 h8
  have K := K p e s m args below meth c R n0 k0 hE hB H locs cells slots ls h3 h4 h5 h6 h7 h8
  obtain ⟨hx, hb, hml, hr, hlk, htb, hown, hnm, hts, hS, -⟩ := hE
  obtain ⟨c1, c2, c3, c4, c5, c6⟩ := hF
  obtain ⟨cell, q1, q2, q3, q4⟩ := h7.at hc (xne c1)
  obtain ⟨hSl, hfc, kC, hkC, hkind⟩ := hS.1.1 ci _ (xCl_at c1)
  obtain ⟨cf, kf, fi, f, hi, hsl⟩ := hSl k c2
  refine W.getf hx hb hown (hts _ c3) hi (u_facts hfc hkC (u_lays hts c4 c2) hi).1 q1 (by rw [q3]; exact fun h => by cases h) (v := xv G v) ?_ rfl rfl hd K
  rw [hsl, q4 k c2]
  simp [vp_V, hv]
theorem x_putf {a ci k idx : Nat} {fs : List Value} {v : Value} (hd : decode M.2.1 pc = .ok (.putfield idx, 3)) (hF : xF M.1.cls idx ci k) (hfin : (xT ci k).2.2.2 = false ∨ ((xT ci k).2.2.2 = true ∧ M.1.name = "<init>" ∧ (xT ci k).1 = M.1.cls)) (hn : narrow (xTy ci k) (xv G v) = xv G v) (hft : fits (xTy ci k) (xv G v) = true) (hc : P.2.2 a = .inr (ci, fs)) (hk : k < fs.length)
    (K : Wp G l d M (pc + 3) L st (xput P a (.inr (ci, fs.set k v))) Q) : Wp G l d M pc L (v :: .ref a :: st) P Q := by
  intro p e s m args below meth c R n0 k0 hE hB H locs cells slots ls h3 h4 h5 h6 h7 h8
  have K := fun H1 locs1 => K p e s m args below meth c R n0 k0 hE hB H1 locs1 cells slots ls h3 h4 h5 h6
  obtain ⟨hx, hb, hml, hr, hlk, htb, hown, hnm, hts, hS, -⟩ := hE
  obtain ⟨c1, c2, c3, c4, c5, c6⟩ := hF
  obtain ⟨cell, q1, q2, q3, q4⟩ := h7.at hc (xne c1)
  have hap := va_apart (own := M.1.cls) hts c4 (xTy ci) c5 c6 hS.1 (xCl_at c1)
  obtain ⟨hSl, hfc, kC, hkC, hkind⟩ := hS.1.1 ci _ (xCl_at c1)
  obtain ⟨cf, kf, fi, f, hi, hsl⟩ := hSl k c2
  have hst := (u_facts hfc hkC (u_lays hts c4 c2) hi).1
  have hlay := hts _ (c4 _ (u_in_lay c2))
  have key : ∀ H' : Heap, H'[G.1 + a]? = some (cell.setSlot f.slot (xv G v)) → H'.size = H.size → (∀ q, q ≠ G.1 + a → H'[q]? = H[q]?) → W p l e R s m args below meth c H' (locs ++ [⟨G.1 + a, f.slot⟩]) cells slots (fun t => ∃ o, t.status = .running ∧ Ended t below o ∧ xEnd G s n0 k0 Q o t) (F0 m (pc + 3) ls (st.map (xv G))) := by
    intro H' e1 e2 e3
    refine K H' _ (h7.put (h7.lt (by rw [hc]; exact xne c1)) e2 e3 ?_) (h8.put e2 e3 (Nat.le_add_right _ _))
    rw [hsl] at e1
    refine t_OB.to (V := updV (vp_V (fs.map (xv G))) k (xv G v)) ⟨_, e1, q2, q3, t_set q4 hap c2 _⟩ (fun j _ => ?_)
    rw [vp_updV_set (by rw [List.length_map]; exact hk), ← List.map_set]
  unfold u_lay at hlay
  rcases hfin with hf | ⟨hf, hin, hdc⟩
  · rw [if_neg (by rw [hf]; decide)] at hlay
    exact W.putK hx hb (f := f) ⟨hown, hts _ c3, ⟨_, _, _, hi⟩, hst⟩ (by rw [q2]; exact u_store hfc hkC hkind hlay hi (c5 k c2) hn hft) q1 q3 (by rw [hsl]; exact k2_hasslot (q4 k c2)) rfl rfl hd key
  · rw [if_pos hf] at hlay
    have hcf : m.cls = cf := by
      have h9 := Cond.laysFinal_spec hlay
      obtain ⟨_, _, w, _, _, _, -, -, h10, -, -, -, h11, -⟩ := h9
      have h12 := congrArg (Option.map Prod.fst) (h10.symm.trans hi)
      rw [hdc, hown] at h11
      exact (Option.some.inj h11).trans (Option.some.inj h12)
    exact W.putFinK hx hb hown (hts _ c3) hi hst hcf (hnm.trans hin) (by rw [q2]; exact u_fits hfc hkC hkind (Or.inr hlay) hi (c5 k c2) hn hft) q1 q3 (by rw [hsl]; exact k2_hasslot (q4 k c2)) rfl rfl hd key
/-- an index inside an array of n -/
theorem x_inb {q : ClassId} {n : Nat} {f : Nat → Value} {i : Int32} (h : vp_in i n) : ¬ (i < 0 ∨ (arrV q n f).slots.size ≤ i.toNatClampNeg) := (arrV_size q n f).symm ▸ h
theorem x_rdb {q : ClassId} {n : Nat} {f : Nat → Value} {i : Int32} {v : Value} (h : vp_in i n) (hv : f i.toNatClampNeg = v) : (arrV q n f).slots[i.toNatClampNeg]? = some v := hv ▸ arrV_read q f (Nat.lt_of_not_le fun z => h (Or.inr z))
theorem x_iald {a n : Nat} {f : Nat → Int32} {i : Int32} (hd : decode M.2.1 pc = .ok (.iaload, 1)) (hc : P.2.2 a = .inl (.int, n, .inl f)) (hin : vp_in i n) (K : Wp G l d M (pc + 1) L (.int (f i.toNatClampNeg) :: st) P Q) : Wp G l d M pc L (.int i :: .ref a :: st) P Q := by
  intro p e s m args below meth c R n0 k0 hE hB H locs cells slots ls h3 h4 h5 h6 h7 h8
  have K := K p e s m args below meth c R n0 k0 hE hB H locs cells slots ls h3 h4 h5 h6 h7 h8
  obtain ⟨hx, hb, -, -, -, -, -, -, -, hS, -⟩ := hE
  have hcell := h7.at hc (by intro q; cases q)
  exact W.iald (v := .int (f i.toNatClampNeg)) hx hb hcell (xK_at hS 0 rfl n (fun j => .int (f j))) nofun (x_inb hin) (x_rdb hin rfl) rfl rfl hd K
theorem x_bald {a n : Nat} {f : Nat → Int32} {i : Int32} (hd : decode M.2.1 pc = .ok (.baload, 1)) (hc : P.2.2 a = .inl (.byte, n, .inl f)) (hin : vp_in i n) (K : Wp G l d M (pc + 1) L (.int (f i.toNatClampNeg) :: st) P Q) : Wp G l d M pc L (.int i :: .ref a :: st) P Q := by
  intro p e s m args below meth c R n0 k0 hE hB H locs cells slots ls h3 h4 h5 h6 h7 h8
  have K := K p e s m args below meth c R n0 k0 hE hB H locs cells slots ls h3 h4 h5 h6 h7 h8
  obtain ⟨hx, hb, -, -, -, -, -, -, -, hS, -⟩ := hE
  have hcell := h7.at hc (by intro q; cases q)
  exact W.bald (v := .int (f i.toNatClampNeg)) hx hb hcell (xK_at hS 1 rfl n (fun j => .int (f j))) nofun (x_inb hin) (x_rdb hin rfl) rfl rfl hd K
theorem x_zald {a n : Nat} {f : Nat → Int32} {i : Int32} (hd : decode M.2.1 pc = .ok (.baload, 1)) (hc : P.2.2 a = .inl (.boolean, n, .inl f)) (hin : vp_in i n) (K : Wp G l d M (pc + 1) L (.int (f i.toNatClampNeg) :: st) P Q) : Wp G l d M pc L (.int i :: .ref a :: st) P Q := by
  intro p e s m args below meth c R n0 k0 hE hB H locs cells slots ls h3 h4 h5 h6 h7 h8
  have K := K p e s m args below meth c R n0 k0 hE hB H locs cells slots ls h3 h4 h5 h6 h7 h8
  obtain ⟨hx, hb, -, -, -, -, -, -, -, hS, -⟩ := hE
  have hcell := h7.at hc (by intro q; cases q)
  exact W.zald (v := .int (f i.toNatClampNeg)) hx hb hcell (xK_at hS 3 rfl n (fun j => .int (f j))) nofun (x_inb hin) (x_rdb hin rfl) rfl rfl hd K
theorem x_lald {a n : Nat} {f : Nat → Int64} {i : Int32} (hd : decode M.2.1 pc = .ok (.laload, 1)) (hc : P.2.2 a = .inl (.long, n, .inr (.inl f))) (hin : vp_in i n) (K : Wp G l d M (pc + 1) L (.long (f i.toNatClampNeg) :: st) P Q) : Wp G l d M pc L (.int i :: .ref a :: st) P Q := by
  intro p e s m args below meth c R n0 k0 hE hB H locs cells slots ls h3 h4 h5 h6 h7 h8
  have K := K p e s m args below meth c R n0 k0 hE hB H locs cells slots ls h3 h4 h5 h6 h7 h8
  obtain ⟨hx, hb, -, -, -, -, -, -, -, hS, -⟩ := hE
  have hcell := h7.at hc (by intro q; cases q)
  exact W.lald (v := .long (f i.toNatClampNeg)) hx hb hcell (xK_at hS 2 rfl n (fun j => .long (f j))) nofun (x_inb hin) (x_rdb hin rfl) rfl rfl hd K
theorem x_aald {a n r : Nat} {f : Nat → Option Nat} {i : Int32} (hd : decode M.2.1 pc = .ok (.aaload, 1)) (hc : P.2.2 a = .inl (.array .int, n, .inr (.inr f))) (hin : vp_in i n) (hr : f i.toNatClampNeg = some r) (K : Wp G l d M (pc + 1) L (.ref r :: st) P Q) : Wp G l d M pc L (.int i :: .ref a :: st) P Q := by
  intro p e s m args below meth c R n0 k0 hE hB H locs cells slots ls h3 h4 h5 h6 h7 h8
  have K := K p e s m args below meth c R n0 k0 hE hB H locs cells slots ls h3 h4 h5 h6 h7 h8
  obtain ⟨hx, hb, -, -, -, -, -, -, -, hS, -⟩ := hE
  have hcell := h7.at hc (by intro q; cases q)
  exact W.aald (v := .ref (G.1 + r)) (ty := .array .int) hx hb hcell (xK_at hS 4 rfl n (fun j => va_rf ((f j).map (fun i => G.1 + i)))) rfl nofun (x_inb hin) (x_rdb hin (by rw [hr]; rfl)) rfl rfl hd K
theorem x_alen {a n t : Nat} {ty : FieldType} {z : (Nat → Int32) ⊕ (Nat → Int64) ⊕ (Nat → Option Nat)} (hd : decode M.2.1 pc = .ok (.arraylength, 1)) (hc : P.2.2 a = .inl (ty, n, z)) (ht : (xTys G)[t]? = some (G.2.2.1 ty, ty)) (K : Wp G l d M (pc + 1) L (.int (Int32.ofNat n) :: st) P Q) : Wp G l d M pc L (.ref a :: st) P Q := by
  intro p e s m args below meth c R n0 k0 hE hB H locs cells slots ls h3 h4 h5 h6 h7 h8
  have K := K p e s m args below meth c R n0 k0 hE hB H locs cells slots ls h3 h4 h5 h6 h7 h8
  obtain ⟨hx, hb, -, -, -, -, -, -, -, hS, -⟩ := hE
  have hcell := h7.at hc (by intro q; cases q)
  have hA := xK_at hS t ht
  rcases z with f | f | f
  · exact W.alen (n := Int32.ofNat n) hx hb hcell (hA n (fun j => .int (f j))) (by show (arrV _ _ _).slots.size.toInt32 = _; rw [arrV_size] <;> rfl) rfl rfl hd K
  · exact W.alen (n := Int32.ofNat n) hx hb hcell (hA n (fun j => .long (f j))) (by show (arrV _ _ _).slots.size.toInt32 = _; rw [arrV_size] <;> rfl) rfl rfl hd K
  · exact W.alen (n := Int32.ofNat n) hx hb hcell (hA n (fun j => va_rf ((f j).map (fun i => G.1 + i)))) (by show (arrV _ _ _).slots.size.toInt32 = _; rw [arrV_size] <;> rfl) rfl rfl hd K
/-- the script -/
theorem x_sld {i : Int32} (hd : decode M.2.1 pc = .ok (.iaload, 1)) (hin : vp_in i G.2.2.2.2.1) (K : Wp G l d M (pc + 1) L (.int (G.2.2.2.2.2 i.toNatClampNeg) :: st) P Q) : Wp G l d M pc L (.int i :: .retAddr 0 :: st) P Q := by
  intro p e s m args below meth c R n0 k0 hE hB H locs cells slots ls h3 h4 h5 h6 h7 h8
  have K := K p e s m args below meth c R n0 k0 hE hB H locs cells slots ls h3 h4 h5 h6 h7 h8
  obtain ⟨hx, hb, -, -, -, -, -, -, -, hS, -⟩ := hE
  obtain ⟨-, -, -, -, -, -, -, -, -, hX, hl0, hl1, -⟩ := hS
  exact va_sld hx hb hX (Nat.lt_of_lt_of_le hl0 hl1) (fun q => absurd hl0 (Nat.not_lt.mpr q)) h8 hin hd K
theorem x_slen (hd : decode M.2.1 pc = .ok (.arraylength, 1)) (K : Wp G l d M (pc + 1) L (.int (Int32.ofNat G.2.2.2.2.1) :: st) P Q) : Wp G l d M pc L (.retAddr 0 :: st) P Q := by
  intro p e s m args below meth c R n0 k0 hE hB H locs cells slots ls h3 h4 h5 h6 h7 h8
  have K := K p e s m args below meth c R n0 k0 hE hB H locs cells slots ls h3 h4 h5 h6 h7 h8
  obtain ⟨hx, hb, -, -, -, -, -, -, -, hS, -⟩ := hE
  obtain ⟨-, -, -, -, -, -, -, -, -, hX, hl0, hl1, -⟩ := hS
  exact va_slen hx hb hX (Nat.lt_of_lt_of_le hl0 hl1) (fun q => absurd hl0 (Nat.not_lt.mpr q)) h8 hd K
theorem x_iast {a n : Nat} {f : Nat → Int32} {i x : Int32} (hd : decode M.2.1 pc = .ok (.iastore, 1)) (hc : P.2.2 a = .inl (.int, n, .inl f)) (hin : vp_in i n) (K : Wp G l d M (pc + 1) L st (xput P a (.inl (.int, n, .inl (upd f i.toNatClampNeg x)))) Q) : Wp G l d M pc L (.int x :: .int i :: .ref a :: st) P Q := by
  intro p e s m args below meth c R n0 k0 hE hB H locs cells slots ls h3 h4 h5 h6 h7 h8
  have K := fun H1 locs1 => K p e s m args below meth c R n0 k0 hE hB H1 locs1 cells slots ls h3 h4 h5 h6
  obtain ⟨hx, hb, -, -, -, -, -, -, -, hS, -⟩ := hE
  have hcell := h7.at hc (by intro q; cases q)
  refine W.iast hx hb hcell (xK_at hS 0 rfl n (fun j => .int (f j))) nofun (x_inb hin) rfl rfl hd fun H1 e1 e2 e3 => ?_
  refine K H1 _ (h7.put (h7.lt (by rw [hc]; intro q; cases q)) e2 e3 ?_) (h8.put e2 e3 (Nat.le_add_right _ _))
  show H1[G.1 + a]? = some (arrV _ n (fun j => .int (upd f i.toNatClampNeg x j)))
  rw [e1]
  show some ((arrV (G.2.2.1 .int) n (fun j => .int (f j))).setSlot _ _) = _
  rw [arrV_store]
  refine congrArg some (congrArg (arrV _ n) (funext fun q => ?_))
  by_cases hq : q = i.toNatClampNeg
  · subst hq
    simp [updV, upd]
  · simp [updV, upd, hq]
theorem x_bast {a n : Nat} {f : Nat → Int32} {i x : Int32} (hd : decode M.2.1 pc = .ok (.bastore, 1)) (hc : P.2.2 a = .inl (.byte, n, .inl f)) (hin : vp_in i n) (K : Wp G l d M (pc + 1) L st (xput P a (.inl (.byte, n, .inl (upd f i.toNatClampNeg (vp_nar .byte x))))) Q) : Wp G l d M pc L (.int x :: .int i :: .ref a :: st) P Q := by
  intro p e s m args below meth c R n0 k0 hE hB H locs cells slots ls h3 h4 h5 h6 h7 h8
  have K := fun H1 locs1 => K p e s m args below meth c R n0 k0 hE hB H1 locs1 cells slots ls h3 h4 h5 h6
  obtain ⟨hx, hb, -, -, -, -, -, -, -, hS, -⟩ := hE
  have hcell := h7.at hc (by intro q; cases q)
  refine W.bast hx hb hcell (xK_at hS 1 rfl n (fun j => .int (f j))) nofun (x_inb hin) rfl rfl hd fun H1 e1 e2 e3 => ?_
  refine K H1 _ (h7.put (h7.lt (by rw [hc]; intro q; cases q)) e2 e3 ?_) (h8.put e2 e3 (Nat.le_add_right _ _))
  show H1[G.1 + a]? = some (arrV _ n (fun j => .int (upd f i.toNatClampNeg (vp_nar .byte x) j)))
  rw [e1]
  show some ((arrV (G.2.2.1 .byte) n (fun j => .int (f j))).setSlot _ _) = _
  rw [arrV_store]
  refine congrArg some (congrArg (arrV _ n) (funext fun q => ?_))
  by_cases hq : q = i.toNatClampNeg
  · subst hq
    simp [updV, upd, vp_nar]
    try rfl
  · simp [updV, upd, hq]
theorem x_zast {a n : Nat} {f : Nat → Int32} {i x : Int32} (hd : decode M.2.1 pc = .ok (.bastore, 1)) (hc : P.2.2 a = .inl (.boolean, n, .inl f)) (hin : vp_in i n) (K : Wp G l d M (pc + 1) L st (xput P a (.inl (.boolean, n, .inl (upd f i.toNatClampNeg (vp_nar .boolean x))))) Q) : Wp G l d M pc L (.int x :: .int i :: .ref a :: st) P Q := by
  intro p e s m args below meth c R n0 k0 hE hB H locs cells slots ls h3 h4 h5 h6 h7 h8
  have K := fun H1 locs1 => K p e s m args below meth c R n0 k0 hE hB H1 locs1 cells slots ls h3 h4 h5 h6
  obtain ⟨hx, hb, -, -, -, -, -, -, -, hS, -⟩ := hE
  have hcell := h7.at hc (by intro q; cases q)
  refine W.zast hx hb hcell (xK_at hS 3 rfl n (fun j => .int (f j))) nofun (x_inb hin) rfl rfl hd fun H1 e1 e2 e3 => ?_
  refine K H1 _ (h7.put (h7.lt (by rw [hc]; intro q; cases q)) e2 e3 ?_) (h8.put e2 e3 (Nat.le_add_right _ _))
  show H1[G.1 + a]? = some (arrV _ n (fun j => .int (upd f i.toNatClampNeg (vp_nar .boolean x) j)))
  rw [e1]
  show some ((arrV (G.2.2.1 .boolean) n (fun j => .int (f j))).setSlot _ _) = _
  rw [arrV_store]
  refine congrArg some (congrArg (arrV _ n) (funext fun q => ?_))
  by_cases hq : q = i.toNatClampNeg
  · subst hq
    simp [updV, upd, vp_nar]
    try rfl
  · simp [updV, upd, hq]
theorem x_last {a n : Nat} {f : Nat → Int64} {i : Int32} {x : Int64} (hd : decode M.2.1 pc = .ok (.lastore, 1)) (hc : P.2.2 a = .inl (.long, n, .inr (.inl f))) (hin : vp_in i n) (K : Wp G l d M (pc + 1) L st (xput P a (.inl (.long, n, .inr (.inl (vp_updL f i.toNatClampNeg x))))) Q) : Wp G l d M pc L (.long x :: .int i :: .ref a :: st) P Q := by
  intro p e s m args below meth c R n0 k0 hE hB H locs cells slots ls h3 h4 h5 h6 h7 h8
  have K := fun H1 locs1 => K p e s m args below meth c R n0 k0 hE hB H1 locs1 cells slots ls h3 h4 h5 h6
  obtain ⟨hx, hb, -, -, -, -, -, -, -, hS, -⟩ := hE
  have hcell := h7.at hc (by intro q; cases q)
  refine W.last hx hb hcell (xK_at hS 2 rfl n (fun j => .long (f j))) nofun (x_inb hin) rfl rfl hd fun H1 e1 e2 e3 => ?_
  refine K H1 _ (h7.put (h7.lt (by rw [hc]; intro q; cases q)) e2 e3 ?_) (h8.put e2 e3 (Nat.le_add_right _ _))
  show H1[G.1 + a]? = some (arrV _ n (fun j => .long (vp_updL f i.toNatClampNeg x j)))
  rw [e1]
  show some ((arrV (G.2.2.1 .long) n (fun j => .long (f j))).setSlot _ _) = _
  rw [arrV_store]
  refine congrArg some (congrArg (arrV _ n) (funext fun q => ?_))
  by_cases hq : q = i.toNatClampNeg
  · subst hq
    simp [updV, vp_updL]
  · simp [updV, vp_updL, hq]
end XH
