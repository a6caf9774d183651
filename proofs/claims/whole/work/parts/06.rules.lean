section XR
variable {G : xG} {l : Launch} {d : Nat} {M : xM} {pc : Nat} {L : xL} {st : List Value} {P : xH} {Q : xR → xH → Prop}
theorem x_iadd {x y : Int32} (hd : decode M.2.1 pc = .ok (.iadd, 1)) (K : Wp G l d M (pc + 1) L (.int (x + y) :: st) P Q) : Wp G l d M (pc) L (.int y :: .int x :: st) P Q := by
  intro p e s m args below meth c R n0 k0 hE hB H locs cells slots ls h3 h4 h5 h6 h7 h8
  exact lv_iadd hE.1 hE.2.1 hd (K p e s m args below meth c R n0 k0 hE hB H locs cells slots ls h3 h4 h5 h6 h7 h8)
theorem x_isub {x y : Int32} (hd : decode M.2.1 pc = .ok (.isub, 1)) (K : Wp G l d M (pc + 1) L (.int (x - y) :: st) P Q) : Wp G l d M (pc) L (.int y :: .int x :: st) P Q := by
  intro p e s m args below meth c R n0 k0 hE hB H locs cells slots ls h3 h4 h5 h6 h7 h8
  exact lv_isub hE.1 hE.2.1 hd (K p e s m args below meth c R n0 k0 hE hB H locs cells slots ls h3 h4 h5 h6 h7 h8)
theorem x_imul {x y : Int32} (hd : decode M.2.1 pc = .ok (.imul, 1)) (K : Wp G l d M (pc + 1) L (.int (x * y) :: st) P Q) : Wp G l d M (pc) L (.int y :: .int x :: st) P Q := by
  intro p e s m args below meth c R n0 k0 hE hB H locs cells slots ls h3 h4 h5 h6 h7 h8
  exact lv_imul hE.1 hE.2.1 hd (K p e s m args below meth c R n0 k0 hE hB H locs cells slots ls h3 h4 h5 h6 h7 h8)
theorem x_iand {x y : Int32} (hd : decode M.2.1 pc = .ok (.iand, 1)) (K : Wp G l d M (pc + 1) L (.int (x &&& y) :: st) P Q) : Wp G l d M (pc) L (.int y :: .int x :: st) P Q := by
  intro p e s m args below meth c R n0 k0 hE hB H locs cells slots ls h3 h4 h5 h6 h7 h8
  exact lv_iand hE.1 hE.2.1 hd (K p e s m args below meth c R n0 k0 hE hB H locs cells slots ls h3 h4 h5 h6 h7 h8)
theorem x_ior {x y : Int32} (hd : decode M.2.1 pc = .ok (.ior, 1)) (K : Wp G l d M (pc + 1) L (.int (x ||| y) :: st) P Q) : Wp G l d M (pc) L (.int y :: .int x :: st) P Q := by
  intro p e s m args below meth c R n0 k0 hE hB H locs cells slots ls h3 h4 h5 h6 h7 h8
  exact lv_ior hE.1 hE.2.1 hd (K p e s m args below meth c R n0 k0 hE hB H locs cells slots ls h3 h4 h5 h6 h7 h8)
theorem x_ixor {x y : Int32} (hd : decode M.2.1 pc = .ok (.ixor, 1)) (K : Wp G l d M (pc + 1) L (.int (x ^^^ y) :: st) P Q) : Wp G l d M (pc) L (.int y :: .int x :: st) P Q := by
  intro p e s m args below meth c R n0 k0 hE hB H locs cells slots ls h3 h4 h5 h6 h7 h8
  exact lv_ixor hE.1 hE.2.1 hd (K p e s m args below meth c R n0 k0 hE hB H locs cells slots ls h3 h4 h5 h6 h7 h8)
theorem x_ishl {x y : Int32} (hd : decode M.2.1 pc = .ok (.ishl, 1)) (K : Wp G l d M (pc + 1) L (.int (x <<< (y &&& 31)) :: st) P Q) : Wp G l d M (pc) L (.int y :: .int x :: st) P Q := by
  intro p e s m args below meth c R n0 k0 hE hB H locs cells slots ls h3 h4 h5 h6 h7 h8
  exact lv_ishl hE.1 hE.2.1 hd (K p e s m args below meth c R n0 k0 hE hB H locs cells slots ls h3 h4 h5 h6 h7 h8)
theorem x_ishr {x y : Int32} (hd : decode M.2.1 pc = .ok (.ishr, 1)) (K : Wp G l d M (pc + 1) L (.int (x >>> (y &&& 31)) :: st) P Q) : Wp G l d M (pc) L (.int y :: .int x :: st) P Q := by
  intro p e s m args below meth c R n0 k0 hE hB H locs cells slots ls h3 h4 h5 h6 h7 h8
  exact lv_ishr hE.1 hE.2.1 hd (K p e s m args below meth c R n0 k0 hE hB H locs cells slots ls h3 h4 h5 h6 h7 h8)
theorem x_idiv {x y : Int32} (hd : decode M.2.1 pc = .ok (.idiv, 1)) (hne : ¬ y = 0) (K : Wp G l d M (pc + 1) L (.int (x / y) :: st) P Q) : Wp G l d M (pc) L (.int y :: .int x :: st) P Q := by
  intro p e s m args below meth c R n0 k0 hE hB H locs cells slots ls h3 h4 h5 h6 h7 h8
  exact lv_idiv hE.1 hE.2.1 hd hne (K p e s m args below meth c R n0 k0 hE hB H locs cells slots ls h3 h4 h5 h6 h7 h8)
theorem x_irem {x y : Int32} (hd : decode M.2.1 pc = .ok (.irem, 1)) (hne : ¬ y = 0) (K : Wp G l d M (pc + 1) L (.int (x - x / y * y) :: st) P Q) : Wp G l d M (pc) L (.int y :: .int x :: st) P Q := by
  intro p e s m args below meth c R n0 k0 hE hB H locs cells slots ls h3 h4 h5 h6 h7 h8
  exact lv_irem hE.1 hE.2.1 hd hne (K p e s m args below meth c R n0 k0 hE hB H locs cells slots ls h3 h4 h5 h6 h7 h8)
theorem x_iushr {x y : Int32} (hd : decode M.2.1 pc = .ok (.iushr, 1)) (K : Wp G l d M (pc + 1) L (.int ((x.toUInt32 >>> (y.toUInt32 &&& Int32.toUInt32 31)).toInt32) :: st) P Q) : Wp G l d M (pc) L (.int y :: .int x :: st) P Q := by
  intro p e s m args below meth c R n0 k0 hE hB H locs cells slots ls h3 h4 h5 h6 h7 h8
  exact lv_iushr hE.1 hE.2.1 hd rfl (K p e s m args below meth c R n0 k0 hE hB H locs cells slots ls h3 h4 h5 h6 h7 h8)
theorem x_ineg {x : Int32} (hd : decode M.2.1 pc = .ok (.ineg, 1)) (K : Wp G l d M (pc + 1) L (.int (-x) :: st) P Q) : Wp G l d M (pc) L (.int x :: st) P Q := by
  intro p e s m args below meth c R n0 k0 hE hB H locs cells slots ls h3 h4 h5 h6 h7 h8
  exact lv_ineg hE.1 hE.2.1 hd (K p e s m args below meth c R n0 k0 hE hB H locs cells slots ls h3 h4 h5 h6 h7 h8)
theorem x_i2l {x : Int32} (hd : decode M.2.1 pc = .ok (.i2l, 1)) (K : Wp G l d M (pc + 1) L (.long x.toInt64 :: st) P Q) : Wp G l d M (pc) L (.int x :: st) P Q := by
  intro p e s m args below meth c R n0 k0 hE hB H locs cells slots ls h3 h4 h5 h6 h7 h8
  exact lv_i2l hE.1 hE.2.1 hd rfl (K p e s m args below meth c R n0 k0 hE hB H locs cells slots ls h3 h4 h5 h6 h7 h8)
theorem x_l2i {x : Int64} (hd : decode M.2.1 pc = .ok (.l2i, 1)) (K : Wp G l d M (pc + 1) L (.int x.toInt32 :: st) P Q) : Wp G l d M (pc) L (.long x :: st) P Q := by
  intro p e s m args below meth c R n0 k0 hE hB H locs cells slots ls h3 h4 h5 h6 h7 h8
  exact lv_l2i hE.1 hE.2.1 hd rfl (K p e s m args below meth c R n0 k0 hE hB H locs cells slots ls h3 h4 h5 h6 h7 h8)
theorem x_i2b {x : Int32} (hd : decode M.2.1 pc = .ok (.i2b, 1)) (K : Wp G l d M (pc + 1) L (.int x.toInt8.toInt32 :: st) P Q) : Wp G l d M (pc) L (.int x :: st) P Q := by
  intro p e s m args below meth c R n0 k0 hE hB H locs cells slots ls h3 h4 h5 h6 h7 h8
  exact lv_i2b hE.1 hE.2.1 hd rfl (K p e s m args below meth c R n0 k0 hE hB H locs cells slots ls h3 h4 h5 h6 h7 h8)
theorem x_i2c {x : Int32} (hd : decode M.2.1 pc = .ok (.i2c, 1)) (K : Wp G l d M (pc + 1) L (.int (x.toUInt32 % 65536).toInt32 :: st) P Q) : Wp G l d M (pc) L (.int x :: st) P Q := by
  intro p e s m args below meth c R n0 k0 hE hB H locs cells slots ls h3 h4 h5 h6 h7 h8
  exact lv_i2c hE.1 hE.2.1 hd rfl (K p e s m args below meth c R n0 k0 hE hB H locs cells slots ls h3 h4 h5 h6 h7 h8)
theorem x_ladd {x y : Int64} (hd : decode M.2.1 pc = .ok (.ladd, 1)) (K : Wp G l d M (pc + 1) L (.long (x + y) :: st) P Q) : Wp G l d M (pc) L (.long y :: .long x :: st) P Q := by
  intro p e s m args below meth c R n0 k0 hE hB H locs cells slots ls h3 h4 h5 h6 h7 h8
  exact lv_ladd hE.1 hE.2.1 hd (K p e s m args below meth c R n0 k0 hE hB H locs cells slots ls h3 h4 h5 h6 h7 h8)
theorem x_land {x y : Int64} (hd : decode M.2.1 pc = .ok (.land, 1)) (K : Wp G l d M (pc + 1) L (.long (x &&& y) :: st) P Q) : Wp G l d M (pc) L (.long y :: .long x :: st) P Q := by
  intro p e s m args below meth c R n0 k0 hE hB H locs cells slots ls h3 h4 h5 h6 h7 h8
  exact lv_land hE.1 hE.2.1 hd (K p e s m args below meth c R n0 k0 hE hB H locs cells slots ls h3 h4 h5 h6 h7 h8)
theorem x_lor {x y : Int64} (hd : decode M.2.1 pc = .ok (.lor, 1)) (K : Wp G l d M (pc + 1) L (.long (x ||| y) :: st) P Q) : Wp G l d M (pc) L (.long y :: .long x :: st) P Q := by
  intro p e s m args below meth c R n0 k0 hE hB H locs cells slots ls h3 h4 h5 h6 h7 h8
  exact lv_lor hE.1 hE.2.1 hd (K p e s m args below meth c R n0 k0 hE hB H locs cells slots ls h3 h4 h5 h6 h7 h8)
theorem x_lxor {x y : Int64} (hd : decode M.2.1 pc = .ok (.lxor, 1)) (K : Wp G l d M (pc + 1) L (.long (x ^^^ y) :: st) P Q) : Wp G l d M (pc) L (.long y :: .long x :: st) P Q := by
  intro p e s m args below meth c R n0 k0 hE hB H locs cells slots ls h3 h4 h5 h6 h7 h8
  exact lv_lxor hE.1 hE.2.1 hd (K p e s m args below meth c R n0 k0 hE hB H locs cells slots ls h3 h4 h5 h6 h7 h8)
theorem x_lshl {x : Int64} {y : Int32} (hd : decode M.2.1 pc = .ok (.lshl, 1)) (K : Wp G l d M (pc + 1) L (.long (x <<< (y.toInt64 &&& 63)) :: st) P Q) : Wp G l d M (pc) L (.int y :: .long x :: st) P Q := by
  intro p e s m args below meth c R n0 k0 hE hB H locs cells slots ls h3 h4 h5 h6 h7 h8
  exact lv_lshl hE.1 hE.2.1 hd rfl (K p e s m args below meth c R n0 k0 hE hB H locs cells slots ls h3 h4 h5 h6 h7 h8)
theorem x_lshr {x : Int64} {y : Int32} (hd : decode M.2.1 pc = .ok (.lshr, 1)) (K : Wp G l d M (pc + 1) L (.long (x >>> (y.toInt64 &&& 63)) :: st) P Q) : Wp G l d M (pc) L (.int y :: .long x :: st) P Q := by
  intro p e s m args below meth c R n0 k0 hE hB H locs cells slots ls h3 h4 h5 h6 h7 h8
  exact lv_lshr hE.1 hE.2.1 hd rfl (K p e s m args below meth c R n0 k0 hE hB H locs cells slots ls h3 h4 h5 h6 h7 h8)
theorem x_lcmp {x y : Int64} (hd : decode M.2.1 pc = .ok (.lcmp, 1)) (K : Wp G l d M (pc + 1) L (.int (lg_cmp x y) :: st) P Q) : Wp G l d M (pc) L (.long y :: .long x :: st) P Q := by
  intro p e s m args below meth c R n0 k0 hE hB H locs cells slots ls h3 h4 h5 h6 h7 h8
  exact W.lcmp hE.1 hE.2.1 hd (K p e s m args below meth c R n0 k0 hE hB H locs cells slots ls h3 h4 h5 h6 h7 h8)
theorem x_iconst {n : Int} (v : Int32) (hd : decode M.2.1 pc = .ok (.iconst n, 1)) (hv : Int32.ofInt n = v) (K : Wp G l d M (pc + 1) L (.int v :: st) P Q) : Wp G l d M (pc) L (st) P Q := by
  intro p e s m args below meth c R n0 k0 hE hB H locs cells slots ls h3 h4 h5 h6 h7 h8
  exact lv_iconst hE.1 hE.2.1 hd hv (K p e s m args below meth c R n0 k0 hE hB H locs cells slots ls h3 h4 h5 h6 h7 h8)
theorem x_bipush {n : Int} (v : Int32) (hd : decode M.2.1 pc = .ok (.bipush n, 2)) (hv : (Int8.ofInt n).toInt32 = v) (K : Wp G l d M (pc + 2) L (.int v :: st) P Q) : Wp G l d M (pc) L (st) P Q := by
  intro p e s m args below meth c R n0 k0 hE hB H locs cells slots ls h3 h4 h5 h6 h7 h8
  exact lv_bipush hE.1 hE.2.1 hd hv (K p e s m args below meth c R n0 k0 hE hB H locs cells slots ls h3 h4 h5 h6 h7 h8)
theorem x_sipush {n : Int} (v : Int32) (hd : decode M.2.1 pc = .ok (.sipush n, 3)) (hv : (Int16.ofInt n).toInt32 = v) (K : Wp G l d M (pc + 3) L (.int v :: st) P Q) : Wp G l d M (pc) L (st) P Q := by
  intro p e s m args below meth c R n0 k0 hE hB H locs cells slots ls h3 h4 h5 h6 h7 h8
  exact lv_sipush hE.1 hE.2.1 hd hv (K p e s m args below meth c R n0 k0 hE hB H locs cells slots ls h3 h4 h5 h6 h7 h8)
theorem x_lconst {n : Fin 2} (v : Int64) (hd : decode M.2.1 pc = .ok (.lconst n, 1)) (hv : Int64.ofNat (n : Nat) = v) (K : Wp G l d M (pc + 1) L (.long v :: st) P Q) : Wp G l d M (pc) L (st) P Q := by
  intro p e s m args below meth c R n0 k0 hE hB H locs cells slots ls h3 h4 h5 h6 h7 h8
  exact lv_lconst hE.1 hE.2.1 hd hv (K p e s m args below meth c R n0 k0 hE hB H locs cells slots ls h3 h4 h5 h6 h7 h8)
theorem x_iload {i : Nat} {x : Int32} (hd : decode M.2.1 pc = .ok (.iload i, 2)) (hl : L[i]? = some (some (.int x))) (K : Wp G l d M (pc + 2) L (.int x :: st) P Q) : Wp G l d M (pc) L (st) P Q := by
  intro p e s m args below meth c R n0 k0 hE hB H locs cells slots ls h3 h4 h5 h6 h7 h8
  exact lv_iload hE.1 hE.2.1 hd (h5.2.2 i _ hl) (K p e s m args below meth c R n0 k0 hE hB H locs cells slots ls h3 h4 h5 h6 h7 h8)
theorem x_iload_n {k : Fin 4} {x : Int32} (hd : decode M.2.1 pc = .ok (.iload_n k, 1)) (hl : L[(k : Nat)]? = some (some (.int x))) (K : Wp G l d M (pc + 1) L (.int x :: st) P Q) : Wp G l d M (pc) L (st) P Q := by
  intro p e s m args below meth c R n0 k0 hE hB H locs cells slots ls h3 h4 h5 h6 h7 h8
  exact lv_iload_n hE.1 hE.2.1 hd rfl (h5.2.2 _ _ hl) (K p e s m args below meth c R n0 k0 hE hB H locs cells slots ls h3 h4 h5 h6 h7 h8)
theorem x_lload {i : Nat} {x : Int64} (hd : decode M.2.1 pc = .ok (.lload i, 2)) (hl : L[i]? = some (some (.long x))) (K : Wp G l d M (pc + 2) L (.long x :: st) P Q) : Wp G l d M (pc) L (st) P Q := by
  intro p e s m args below meth c R n0 k0 hE hB H locs cells slots ls h3 h4 h5 h6 h7 h8
  exact lv_lload hE.1 hE.2.1 hd (h5.2.2 i _ hl) (K p e s m args below meth c R n0 k0 hE hB H locs cells slots ls h3 h4 h5 h6 h7 h8)
theorem x_lload_n {k : Fin 4} {x : Int64} (hd : decode M.2.1 pc = .ok (.lload_n k, 1)) (hl : L[(k : Nat)]? = some (some (.long x))) (K : Wp G l d M (pc + 1) L (.long x :: st) P Q) : Wp G l d M (pc) L (st) P Q := by
  intro p e s m args below meth c R n0 k0 hE hB H locs cells slots ls h3 h4 h5 h6 h7 h8
  exact lv_lload_n hE.1 hE.2.1 hd rfl (h5.2.2 _ _ hl) (K p e s m args below meth c R n0 k0 hE hB H locs cells slots ls h3 h4 h5 h6 h7 h8)
theorem x_aload {i : Nat} {v : Value} (hv : v.isRef = true ∨ ∃ k9, v = .retAddr k9) (hd : decode M.2.1 pc = .ok (.aload i, 2)) (hl : L[i]? = some (some v)) (K : Wp G l d M (pc + 2) L (v :: st) P Q) : Wp G l d M (pc) L (st) P Q := by
  intro p e s m args below meth c R n0 k0 hE hB H locs cells slots ls h3 h4 h5 h6 h7 h8
  have hl9 := h5.2.2 _ _ hl
  have K9 := K p e s m args below meth c R n0 k0 hE hB H locs cells slots ls h3 h4 h5 h6 h7 h8
  cases v with
  | ref i9 => exact lv_aload hE.1 hE.2.1 hd hl9 K9
  | retAddr i9 => exact lv_aload hE.1 hE.2.1 hd hl9 K9
  | null => exact lv_aloadN hE.1 hE.2.1 hd hl9 K9
  | _ => simp [Value.isRef] at hv
theorem x_aloadr {i : Nat} {a : Nat} (hd : decode M.2.1 pc = .ok (.aload i, 2)) (hl : L[i]? = some (some (.ref a))) (K : Wp G l d M (pc + 2) L (.ref a :: st) P Q) : Wp G l d M (pc) L (st) P Q := x_aload (Or.inl rfl) hd hl K
theorem x_aload_n {k : Fin 4} {v : Value} (hv : v.isRef = true ∨ ∃ k9, v = .retAddr k9) (hd : decode M.2.1 pc = .ok (.aload_n k, 1)) (hl : L[(k : Nat)]? = some (some v)) (K : Wp G l d M (pc + 1) L (v :: st) P Q) : Wp G l d M (pc) L (st) P Q := by
  intro p e s m args below meth c R n0 k0 hE hB H locs cells slots ls h3 h4 h5 h6 h7 h8
  have hl9 := h5.2.2 _ _ hl
  have K9 := K p e s m args below meth c R n0 k0 hE hB H locs cells slots ls h3 h4 h5 h6 h7 h8
  cases v with
  | ref i9 => exact lv_aload_n hE.1 hE.2.1 hd rfl hl9 K9
  | retAddr i9 => exact lv_aload_n hE.1 hE.2.1 hd rfl hl9 K9
  | null => exact lv_aload_nN hE.1 hE.2.1 hd rfl hl9 K9
  | _ => simp [Value.isRef] at hv
theorem x_aload_nr {k : Fin 4} {a : Nat} (hd : decode M.2.1 pc = .ok (.aload_n k, 1)) (hl : L[(k : Nat)]? = some (some (.ref a))) (K : Wp G l d M (pc + 1) L (.ref a :: st) P Q) : Wp G l d M (pc) L (st) P Q := x_aload_n (Or.inl rfl) hd hl K
theorem x_istore {i : Nat} {x : Int32} (hd : decode M.2.1 pc = .ok (.istore i, 2)) (hi : i < L.length) (K : Wp G l d M (pc + 2) (xst1 L i (.int x)) (st) P Q) : Wp G l d M (pc) L (.int x :: st) P Q := by
  intro p e s m args below meth c R n0 k0 hE hB H locs cells slots ls h3 h4 h5 h6 h7 h8
  obtain ⟨ls', e', h'⟩ := h5.st1 (v := .int x) hi rfl
  intro T hT X
  obtain ⟨t, a, b⟩ := K p e s m args below meth c R n0 k0 hE hB H locs cells slots ls' h3 h4 h' (by rw [xst1_len]; exact h6) h7 h8 T hT X
  refine ⟨t, ?_, b⟩
  have e' : storeLocals ls _ (.int x) = some ls' := e'
  have hx := hE.1
  have hb := hE.2.1
  show Steps p.tables e below (T.setTop (F0 m pc ls (.int x :: st.map (xv G)))) t
  jvm_step X.here [X.here.top, ↓top_set X.here.top, hx, hb, hd, e']
  exact a
theorem x_istore_n {k : Fin 4} {x : Int32} (hd : decode M.2.1 pc = .ok (.istore_n k, 1)) (hi : (k : Nat) < L.length) (K : Wp G l d M (pc + 1) (xst1 L (k : Nat) (.int x)) (st) P Q) : Wp G l d M (pc) L (.int x :: st) P Q := by
  intro p e s m args below meth c R n0 k0 hE hB H locs cells slots ls h3 h4 h5 h6 h7 h8
  obtain ⟨ls', e', h'⟩ := h5.st1 (v := .int x) hi rfl
  intro T hT X
  obtain ⟨t, a, b⟩ := K p e s m args below meth c R n0 k0 hE hB H locs cells slots ls' h3 h4 h' (by rw [xst1_len]; exact h6) h7 h8 T hT X
  refine ⟨t, ?_, b⟩
  have e' : storeLocals ls _ (.int x) = some ls' := e'
  have hx := hE.1
  have hb := hE.2.1
  show Steps p.tables e below (T.setTop (F0 m pc ls (.int x :: st.map (xv G)))) t
  jvm_step X.here [X.here.top, ↓top_set X.here.top, hx, hb, hd, e']
  exact a
theorem x_lstore {i : Nat} {x : Int64} (hd : decode M.2.1 pc = .ok (.lstore i, 2)) (hi : i + 1 < L.length) (K : Wp G l d M (pc + 2) (xst2 L i (.long x)) (st) P Q) : Wp G l d M (pc) L (.long x :: st) P Q := by
  intro p e s m args below meth c R n0 k0 hE hB H locs cells slots ls h3 h4 h5 h6 h7 h8
  obtain ⟨ls', e', h'⟩ := h5.st2 (v := .long x) hi rfl
  intro T hT X
  obtain ⟨t, a, b⟩ := K p e s m args below meth c R n0 k0 hE hB H locs cells slots ls' h3 h4 h' (by rw [xst2, List.length_set, xst1_len]; exact h6) h7 h8 T hT X
  refine ⟨t, ?_, b⟩
  have e' : storeLocals ls _ (.long x) = some ls' := e'
  have hx := hE.1
  have hb := hE.2.1
  show Steps p.tables e below (T.setTop (F0 m pc ls (.long x :: st.map (xv G)))) t
  jvm_step X.here [X.here.top, ↓top_set X.here.top, hx, hb, hd, e']
  exact a
theorem x_lstore_n {k : Fin 4} {x : Int64} (hd : decode M.2.1 pc = .ok (.lstore_n k, 1)) (hi : (k : Nat) + 1 < L.length) (K : Wp G l d M (pc + 1) (xst2 L (k : Nat) (.long x)) (st) P Q) : Wp G l d M (pc) L (.long x :: st) P Q := by
  intro p e s m args below meth c R n0 k0 hE hB H locs cells slots ls h3 h4 h5 h6 h7 h8
  obtain ⟨ls', e', h'⟩ := h5.st2 (v := .long x) hi rfl
  intro T hT X
  obtain ⟨t, a, b⟩ := K p e s m args below meth c R n0 k0 hE hB H locs cells slots ls' h3 h4 h' (by rw [xst2, List.length_set, xst1_len]; exact h6) h7 h8 T hT X
  refine ⟨t, ?_, b⟩
  have e' : storeLocals ls _ (.long x) = some ls' := e'
  have hx := hE.1
  have hb := hE.2.1
  show Steps p.tables e below (T.setTop (F0 m pc ls (.long x :: st.map (xv G)))) t
  jvm_step X.here [X.here.top, ↓top_set X.here.top, hx, hb, hd, e']
  exact a
theorem x_astore {i : Nat} {a9 : Nat} (hd : decode M.2.1 pc = .ok (.astore i, 2)) (hi : i < L.length) (K : Wp G l d M (pc + 2) (xst1 L i (.ref a9)) (st) P Q) : Wp G l d M (pc) L (.ref a9 :: st) P Q := by
  intro p e s m args below meth c R n0 k0 hE hB H locs cells slots ls h3 h4 h5 h6 h7 h8
  obtain ⟨ls', e', h'⟩ := h5.st1 (v := .ref a9) hi rfl
  intro T hT X
  obtain ⟨t, a, b⟩ := K p e s m args below meth c R n0 k0 hE hB H locs cells slots ls' h3 h4 h' (by rw [xst1_len]; exact h6) h7 h8 T hT X
  refine ⟨t, ?_, b⟩
  have e' : storeLocals ls _ (.ref (G.1 + a9)) = some ls' := e'
  have hx := hE.1
  have hb := hE.2.1
  show Steps p.tables e below (T.setTop (F0 m pc ls (.ref (G.1 + a9) :: st.map (xv G)))) t
  jvm_step X.here [X.here.top, ↓top_set X.here.top, hx, hb, hd, e', Value.isRef]
  exact a
theorem x_astore_n {k : Fin 4} {a9 : Nat} (hd : decode M.2.1 pc = .ok (.astore_n k, 1)) (hi : (k : Nat) < L.length) (K : Wp G l d M (pc + 1) (xst1 L (k : Nat) (.ref a9)) (st) P Q) : Wp G l d M (pc) L (.ref a9 :: st) P Q := by
  intro p e s m args below meth c R n0 k0 hE hB H locs cells slots ls h3 h4 h5 h6 h7 h8
  obtain ⟨ls', e', h'⟩ := h5.st1 (v := .ref a9) hi rfl
  intro T hT X
  obtain ⟨t, a, b⟩ := K p e s m args below meth c R n0 k0 hE hB H locs cells slots ls' h3 h4 h' (by rw [xst1_len]; exact h6) h7 h8 T hT X
  refine ⟨t, ?_, b⟩
  have e' : storeLocals ls _ (.ref (G.1 + a9)) = some ls' := e'
  have hx := hE.1
  have hb := hE.2.1
  show Steps p.tables e below (T.setTop (F0 m pc ls (.ref (G.1 + a9) :: st.map (xv G)))) t
  jvm_step X.here [X.here.top, ↓top_set X.here.top, hx, hb, hd, e', Value.isRef]
  exact a
theorem x_iinc {i : Nat} {n : Int} {x : Int32} (v : Int32) (hd : decode M.2.1 pc = .ok (.iinc i n, 3)) (hl : L[i]? = some (some (.int x))) (hv : x + Int32.ofInt n = v) (K : Wp G l d M (pc + 3) (xst1 L i (.int v)) (st) P Q) : Wp G l d M (pc) L (st) P Q := by
  subst hv
  intro p e s m args below meth c R n0 k0 hE hB H locs cells slots ls h3 h4 h5 h6 h7 h8
  have hi : i < L.length := (List.getElem?_eq_some_iff.mp hl).1
  have hg : ls[i]? = some (.val (.int x)) := h5.2.2 _ _ hl
  obtain ⟨ls', e', h'⟩ := h5.st1 (v := .int (x + Int32.ofInt n)) hi rfl
  have e' : storeLocals ls i (.int (x + Int32.ofInt n)) = some ls' := e'
  intro T hT X
  obtain ⟨t, a, b⟩ := K p e s m args below meth c R n0 k0 hE hB H locs cells slots ls' h3 h4 h' (by rw [xst1_len]; exact h6) h7 h8 T hT X
  refine ⟨t, ?_, b⟩
  have hx := hE.1
  have hb := hE.2.1
  jvm_step X.here [X.here.top, ↓top_set X.here.top, hx, hb, hd, hg, e']
  exact a
theorem x_dup {v : Value} (hd : decode M.2.1 pc = .ok (.dup, 1)) (hv : v.category = 1) (K : Wp G l d M (pc + 1) L (v :: v :: st) P Q) : Wp G l d M (pc) L (v :: st) P Q := by
  intro p e s m args below meth c R n0 k0 hE hB H locs cells slots ls h3 h4 h5 h6 h7 h8
  exact lv_dup hE.1 hE.2.1 hd (by rw [xv_cat]; exact hv) (K p e s m args below meth c R n0 k0 hE hB H locs cells slots ls h3 h4 h5 h6 h7 h8)
theorem x_pop {v : Value} (hd : decode M.2.1 pc = .ok (.pop, 1)) (hv : v.category = 1) (K : Wp G l d M (pc + 1) L (st) P Q) : Wp G l d M (pc) L (v :: st) P Q := by
  intro p e s m args below meth c R n0 k0 hE hB H locs cells slots ls h3 h4 h5 h6 h7 h8
  exact lv_pop hE.1 hE.2.1 hd (by rw [xv_cat]; exact hv) (K p e s m args below meth c R n0 k0 hE hB H locs cells slots ls h3 h4 h5 h6 h7 h8)
theorem x_dup2 {v w : Value} (hd : decode M.2.1 pc = .ok (.dup2, 1)) (hv : v.category = 1) (hw : w.category = 1) (K : Wp G l d M (pc + 1) L (v :: w :: v :: w :: st) P Q) : Wp G l d M (pc) L (v :: w :: st) P Q := by
  intro p e s m args below meth c R n0 k0 hE hB H locs cells slots ls h3 h4 h5 h6 h7 h8
  exact lv_dup2_11 hE.1 hE.2.1 hd (by rw [xv_cat]; exact hv) (by rw [xv_cat]; exact hw) (K p e s m args below meth c R n0 k0 hE hB H locs cells slots ls h3 h4 h5 h6 h7 h8)
theorem x_if_eq {x : Int32} {off : Int} (tgt : Nat) (hd : decode M.2.1 pc = .ok (.ifCond .eq off, 3)) (ht : (pc : Int) + off = (tgt : Int)) (Kt : x = 0 → Wp G l d M (tgt) L (st) P Q) (Kf : ¬ x = 0 → Wp G l d M (pc + 3) L (st) P Q) : Wp G l d M (pc) L (.int x :: st) P Q := by
  intro p e s m args below meth c R n0 k0 hE hB H locs cells slots ls h3 h4 h5 h6 h7 h8
  exact lv_if_eq hE.1 hE.2.1 hd ht (fun q9 => (Kt q9 p e s m args below meth c R n0 k0 hE hB H locs cells slots ls h3 h4 h5 h6 h7 h8)) (fun q9 => (Kf q9 p e s m args below meth c R n0 k0 hE hB H locs cells slots ls h3 h4 h5 h6 h7 h8))
theorem x_icmp_eq {x y : Int32} {off : Int} (tgt : Nat) (hd : decode M.2.1 pc = .ok (.if_icmp .eq off, 3)) (ht : (pc : Int) + off = (tgt : Int)) (Kt : x = y → Wp G l d M (tgt) L (st) P Q) (Kf : ¬ x = y → Wp G l d M (pc + 3) L (st) P Q) : Wp G l d M (pc) L (.int y :: .int x :: st) P Q := by
  intro p e s m args below meth c R n0 k0 hE hB H locs cells slots ls h3 h4 h5 h6 h7 h8
  exact lv_icmp_eq hE.1 hE.2.1 hd ht (fun q9 => (Kt q9 p e s m args below meth c R n0 k0 hE hB H locs cells slots ls h3 h4 h5 h6 h7 h8)) (fun q9 => (Kf q9 p e s m args below meth c R n0 k0 hE hB H locs cells slots ls h3 h4 h5 h6 h7 h8))
theorem x_if_ne {x : Int32} {off : Int} (tgt : Nat) (hd : decode M.2.1 pc = .ok (.ifCond .ne off, 3)) (ht : (pc : Int) + off = (tgt : Int)) (Kt : ¬ x = 0 → Wp G l d M (tgt) L (st) P Q) (Kf : x = 0 → Wp G l d M (pc + 3) L (st) P Q) : Wp G l d M (pc) L (.int x :: st) P Q := by
  intro p e s m args below meth c R n0 k0 hE hB H locs cells slots ls h3 h4 h5 h6 h7 h8
  exact lv_if_ne hE.1 hE.2.1 hd ht (fun q9 => (Kt q9 p e s m args below meth c R n0 k0 hE hB H locs cells slots ls h3 h4 h5 h6 h7 h8)) (fun q9 => (Kf q9 p e s m args below meth c R n0 k0 hE hB H locs cells slots ls h3 h4 h5 h6 h7 h8))
theorem x_icmp_ne {x y : Int32} {off : Int} (tgt : Nat) (hd : decode M.2.1 pc = .ok (.if_icmp .ne off, 3)) (ht : (pc : Int) + off = (tgt : Int)) (Kt : ¬ x = y → Wp G l d M (tgt) L (st) P Q) (Kf : x = y → Wp G l d M (pc + 3) L (st) P Q) : Wp G l d M (pc) L (.int y :: .int x :: st) P Q := by
  intro p e s m args below meth c R n0 k0 hE hB H locs cells slots ls h3 h4 h5 h6 h7 h8
  exact lv_icmp_ne hE.1 hE.2.1 hd ht (fun q9 => (Kt q9 p e s m args below meth c R n0 k0 hE hB H locs cells slots ls h3 h4 h5 h6 h7 h8)) (fun q9 => (Kf q9 p e s m args below meth c R n0 k0 hE hB H locs cells slots ls h3 h4 h5 h6 h7 h8))
theorem x_if_lt {x : Int32} {off : Int} (tgt : Nat) (hd : decode M.2.1 pc = .ok (.ifCond .lt off, 3)) (ht : (pc : Int) + off = (tgt : Int)) (Kt : x < 0 → Wp G l d M (tgt) L (st) P Q) (Kf : ¬ x < 0 → Wp G l d M (pc + 3) L (st) P Q) : Wp G l d M (pc) L (.int x :: st) P Q := by
  intro p e s m args below meth c R n0 k0 hE hB H locs cells slots ls h3 h4 h5 h6 h7 h8
  exact lv_if_lt hE.1 hE.2.1 hd ht (fun q9 => (Kt q9 p e s m args below meth c R n0 k0 hE hB H locs cells slots ls h3 h4 h5 h6 h7 h8)) (fun q9 => (Kf q9 p e s m args below meth c R n0 k0 hE hB H locs cells slots ls h3 h4 h5 h6 h7 h8))
theorem x_icmp_lt {x y : Int32} {off : Int} (tgt : Nat) (hd : decode M.2.1 pc = .ok (.if_icmp .lt off, 3)) (ht : (pc : Int) + off = (tgt : Int)) (Kt : x < y → Wp G l d M (tgt) L (st) P Q) (Kf : ¬ x < y → Wp G l d M (pc + 3) L (st) P Q) : Wp G l d M (pc) L (.int y :: .int x :: st) P Q := by
  intro p e s m args below meth c R n0 k0 hE hB H locs cells slots ls h3 h4 h5 h6 h7 h8
  exact lv_icmp_lt hE.1 hE.2.1 hd ht (fun q9 => (Kt q9 p e s m args below meth c R n0 k0 hE hB H locs cells slots ls h3 h4 h5 h6 h7 h8)) (fun q9 => (Kf q9 p e s m args below meth c R n0 k0 hE hB H locs cells slots ls h3 h4 h5 h6 h7 h8))
theorem x_if_ge {x : Int32} {off : Int} (tgt : Nat) (hd : decode M.2.1 pc = .ok (.ifCond .ge off, 3)) (ht : (pc : Int) + off = (tgt : Int)) (Kt : 0 ≤ x → Wp G l d M (tgt) L (st) P Q) (Kf : ¬ 0 ≤ x → Wp G l d M (pc + 3) L (st) P Q) : Wp G l d M (pc) L (.int x :: st) P Q := by
  intro p e s m args below meth c R n0 k0 hE hB H locs cells slots ls h3 h4 h5 h6 h7 h8
  exact lv_if_ge hE.1 hE.2.1 hd ht (fun q9 => (Kt q9 p e s m args below meth c R n0 k0 hE hB H locs cells slots ls h3 h4 h5 h6 h7 h8)) (fun q9 => (Kf q9 p e s m args below meth c R n0 k0 hE hB H locs cells slots ls h3 h4 h5 h6 h7 h8))
theorem x_icmp_ge {x y : Int32} {off : Int} (tgt : Nat) (hd : decode M.2.1 pc = .ok (.if_icmp .ge off, 3)) (ht : (pc : Int) + off = (tgt : Int)) (Kt : y ≤ x → Wp G l d M (tgt) L (st) P Q) (Kf : ¬ y ≤ x → Wp G l d M (pc + 3) L (st) P Q) : Wp G l d M (pc) L (.int y :: .int x :: st) P Q := by
  intro p e s m args below meth c R n0 k0 hE hB H locs cells slots ls h3 h4 h5 h6 h7 h8
  exact lv_icmp_ge hE.1 hE.2.1 hd ht (fun q9 => (Kt q9 p e s m args below meth c R n0 k0 hE hB H locs cells slots ls h3 h4 h5 h6 h7 h8)) (fun q9 => (Kf q9 p e s m args below meth c R n0 k0 hE hB H locs cells slots ls h3 h4 h5 h6 h7 h8))
theorem x_if_gt {x : Int32} {off : Int} (tgt : Nat) (hd : decode M.2.1 pc = .ok (.ifCond .gt off, 3)) (ht : (pc : Int) + off = (tgt : Int)) (Kt : 0 < x → Wp G l d M (tgt) L (st) P Q) (Kf : ¬ 0 < x → Wp G l d M (pc + 3) L (st) P Q) : Wp G l d M (pc) L (.int x :: st) P Q := by
  intro p e s m args below meth c R n0 k0 hE hB H locs cells slots ls h3 h4 h5 h6 h7 h8
  exact lv_if_gt hE.1 hE.2.1 hd ht (fun q9 => (Kt q9 p e s m args below meth c R n0 k0 hE hB H locs cells slots ls h3 h4 h5 h6 h7 h8)) (fun q9 => (Kf q9 p e s m args below meth c R n0 k0 hE hB H locs cells slots ls h3 h4 h5 h6 h7 h8))
theorem x_icmp_gt {x y : Int32} {off : Int} (tgt : Nat) (hd : decode M.2.1 pc = .ok (.if_icmp .gt off, 3)) (ht : (pc : Int) + off = (tgt : Int)) (Kt : y < x → Wp G l d M (tgt) L (st) P Q) (Kf : ¬ y < x → Wp G l d M (pc + 3) L (st) P Q) : Wp G l d M (pc) L (.int y :: .int x :: st) P Q := by
  intro p e s m args below meth c R n0 k0 hE hB H locs cells slots ls h3 h4 h5 h6 h7 h8
  exact lv_icmp_gt hE.1 hE.2.1 hd ht (fun q9 => (Kt q9 p e s m args below meth c R n0 k0 hE hB H locs cells slots ls h3 h4 h5 h6 h7 h8)) (fun q9 => (Kf q9 p e s m args below meth c R n0 k0 hE hB H locs cells slots ls h3 h4 h5 h6 h7 h8))
theorem x_if_le {x : Int32} {off : Int} (tgt : Nat) (hd : decode M.2.1 pc = .ok (.ifCond .le off, 3)) (ht : (pc : Int) + off = (tgt : Int)) (Kt : x ≤ 0 → Wp G l d M (tgt) L (st) P Q) (Kf : ¬ x ≤ 0 → Wp G l d M (pc + 3) L (st) P Q) : Wp G l d M (pc) L (.int x :: st) P Q := by
  intro p e s m args below meth c R n0 k0 hE hB H locs cells slots ls h3 h4 h5 h6 h7 h8
  exact lv_if_le hE.1 hE.2.1 hd ht (fun q9 => (Kt q9 p e s m args below meth c R n0 k0 hE hB H locs cells slots ls h3 h4 h5 h6 h7 h8)) (fun q9 => (Kf q9 p e s m args below meth c R n0 k0 hE hB H locs cells slots ls h3 h4 h5 h6 h7 h8))
theorem x_icmp_le {x y : Int32} {off : Int} (tgt : Nat) (hd : decode M.2.1 pc = .ok (.if_icmp .le off, 3)) (ht : (pc : Int) + off = (tgt : Int)) (Kt : x ≤ y → Wp G l d M (tgt) L (st) P Q) (Kf : ¬ x ≤ y → Wp G l d M (pc + 3) L (st) P Q) : Wp G l d M (pc) L (.int y :: .int x :: st) P Q := by
  intro p e s m args below meth c R n0 k0 hE hB H locs cells slots ls h3 h4 h5 h6 h7 h8
  exact lv_icmp_le hE.1 hE.2.1 hd ht (fun q9 => (Kt q9 p e s m args below meth c R n0 k0 hE hB H locs cells slots ls h3 h4 h5 h6 h7 h8)) (fun q9 => (Kf q9 p e s m args below meth c R n0 k0 hE hB H locs cells slots ls h3 h4 h5 h6 h7 h8))
theorem x_goto {off : Int} (tgt : Nat) (hd : decode M.2.1 pc = .ok (.goto off, 3)) (ht : (pc : Int) + off = (tgt : Int)) (K : Wp G l d M (tgt) L (st) P Q) : Wp G l d M (pc) L (st) P Q := by
  intro p e s m args below meth c R n0 k0 hE hB H locs cells slots ls h3 h4 h5 h6 h7 h8
  exact lv_goto hE.1 hE.2.1 hd ht (K p e s m args below meth c R n0 k0 hE hB H locs cells slots ls h3 h4 h5 h6 h7 h8)
theorem x_ifnonnull {a : Nat} {off : Int} (tgt : Nat) (hd : decode M.2.1 pc = .ok (.ifnonnull off, 3)) (ht : (pc : Int) + off = (tgt : Int)) (K : Wp G l d M (tgt) L (st) P Q) : Wp G l d M (pc) L (.ref a :: st) P Q := by
  intro p e s m args below meth c R n0 k0 hE hB H locs cells slots ls h3 h4 h5 h6 h7 h8
  exact lv_ifnonnull hE.1 hE.2.1 hd ht (K p e s m args below meth c R n0 k0 hE hB H locs cells slots ls h3 h4 h5 h6 h7 h8)
theorem x_ifnonnullN {off : Int} (hd : decode M.2.1 pc = .ok (.ifnonnull off, 3)) (K : Wp G l d M (pc + 3) L (st) P Q) : Wp G l d M (pc) L (.null :: st) P Q := by
  intro p e s m args below meth c R n0 k0 hE hB H locs cells slots ls h3 h4 h5 h6 h7 h8
  exact lv_ifnonnullN hE.1 hE.2.1 hd (K p e s m args below meth c R n0 k0 hE hB H locs cells slots ls h3 h4 h5 h6 h7 h8)
theorem x_tabOut {dflt lo hi : Int} {offs : Array Int} {len : Nat} {x : Int32} (tgt : Nat) (hd : decode M.2.1 pc = .ok (.tableswitch dflt lo hi offs, len)) (h : x.toInt < lo ∨ hi < x.toInt) (ht : (pc : Int) + dflt = (tgt : Int)) (K : Wp G l d M (tgt) L (st) P Q) : Wp G l d M (pc) L (.int x :: st) P Q := by
  intro p e s m args below meth c R n0 k0 hE hB H locs cells slots ls h3 h4 h5 h6 h7 h8
  exact lv_tableOut hE.1 hE.2.1 hd h ht (K p e s m args below meth c R n0 k0 hE hB H locs cells slots ls h3 h4 h5 h6 h7 h8)
theorem x_tabIn {dflt lo hi off : Int} {offs : Array Int} {len : Nat} {x : Int32} (tgt : Nat) (hd : decode M.2.1 pc = .ok (.tableswitch dflt lo hi offs, len)) (ha : ¬ x.toInt < lo) (hb : ¬ hi < x.toInt) (ho : offs[(x.toInt - lo).toNat]? = some off) (ht : (pc : Int) + off = (tgt : Int)) (K : Wp G l d M (tgt) L (st) P Q) : Wp G l d M (pc) L (.int x :: st) P Q := by
  intro p e s m args below meth c R n0 k0 hE hB H locs cells slots ls h3 h4 h5 h6 h7 h8
  exact lv_tableIn hE.1 hE.2.1 hd ha hb ho ht (K p e s m args below meth c R n0 k0 hE hB H locs cells slots ls h3 h4 h5 h6 h7 h8)
theorem x_ldc {i : Nat} {v : Int32} (hd : decode M.2.1 pc = .ok (.ldc i, 2)) (hw : Cond.constant M.1.cls i v ∈ xWS) (K : Wp G l d M (pc + 2) L (.int v :: st) P Q) : Wp G l d M (pc) L (st) P Q := by
  intro p e s m args below meth c R n0 k0 hE hB H locs cells slots ls h3 h4 h5 h6 h7 h8
  exact lv_ldc hE.1 hE.2.1 hE.2.2.2.2.2.2.1 (hE.2.2.2.2.2.2.2.2.1 _ hw) hd (K p e s m args below meth c R n0 k0 hE hB H locs cells slots ls h3 h4 h5 h6 h7 h8)
theorem x_ldcw {i : Nat} {v : Int32} (hd : decode M.2.1 pc = .ok (.ldc_w i, 3)) (hw : Cond.constant M.1.cls i v ∈ xWS) (K : Wp G l d M (pc + 3) L (.int v :: st) P Q) : Wp G l d M (pc) L (st) P Q := by
  intro p e s m args below meth c R n0 k0 hE hB H locs cells slots ls h3 h4 h5 h6 h7 h8
  exact lv_ldcw hE.1 hE.2.1 hE.2.2.2.2.2.2.1 (hE.2.2.2.2.2.2.2.2.1 _ hw) hd (K p e s m args below meth c R n0 k0 hE hB H locs cells slots ls h3 h4 h5 h6 h7 h8)
theorem x_ldc2 {i : Nat} {v : Int64} (hd : decode M.2.1 pc = .ok (.ldc2_w i, 3)) (hw : Cond.constantLong M.1.cls i v ∈ xWS) (K : Wp G l d M (pc + 3) L (.long v :: st) P Q) : Wp G l d M (pc) L (st) P Q := by
  intro p e s m args below meth c R n0 k0 hE hB H locs cells slots ls h3 h4 h5 h6 h7 h8
  exact lv_ldc2 hE.1 hE.2.1 hE.2.2.2.2.2.2.1 (hE.2.2.2.2.2.2.2.2.1 _ hw) hd (K p e s m args below meth c R n0 k0 hE hB H locs cells slots ls h3 h4 h5 h6 h7 h8)
end XR
