/-! what holds at the law's entry -/
theorem xe_arr {args : Array Value} {s : State} {ty : FieldType} (h : (Cond.arrayClass ty).before args s = true) : ∃ c, ArrOfT s c ty ∧ s.vm.findClass ("[" ++ ty.toString) = some c := by
  obtain ⟨c, k, comp, h1, h2, h3⟩ := Cond.arrayClass_spec (args := args) (first := s) (o := none) (idx := []) h
  exact ⟨c, fun n z => ⟨nofun, k, h2, comp, h3⟩, h1⟩
theorem xe_arrA {args : Array Value} {s : State} {t : FieldType} (h : (Cond.arrayOver (.array t)).before args s = true) : ∃ c, ArrOfT s c (.array t) ∧ s.vm.findClass ("[" ++ (FieldType.array t).toString) = some c := by
  obtain ⟨comp, c, k, -, h2, h3, h1⟩ := Cond.arrayOver_specA (args := args) (first := s) (o := none) (idx := []) h
  exact ⟨c, fun n z => ⟨nofun, k, h2, comp, h3⟩, h1⟩
/-- the classes' numbers and slots -/
theorem xe_cls {args : Array Value} {s : State} (hts : ∀ w ∈ xWS, w.before args s = true) : ∃ D : va_G, (∀ ci, ci < 12 → u_Kn s (xNm ci) (xT ci) (xN ci) (D.1 ci) (D.2 ci)) ∧ ∀ k, k < 5 → s.vm.findClass (xEx.getD k "") = some (D.1 (20 + k)) := by
  have h1 : ∀ ci, ci < 12 → ∃ (c : ClassId) (i : Nat → Nat), u_Kn s (xNm ci) (xT ci) (xN ci) c i := by
    intro ci hci
    match ci, hci with
    | 0, _ => exact u_known hts xok_0.1 (hts _ wins_X0)
    | 1, _ => exact u_known hts xok_1.1 (hts _ wins_X1)
    | 2, _ => exact u_known hts xok_2.1 (hts _ wins_X2)
    | 3, _ => exact u_known hts xok_3.1 (hts _ wins_X3)
    | 4, _ => exact u_known hts xok_4.1 (hts _ wins_X4)
    | 5, _ => exact u_known hts xok_5.1 (hts _ wins_X5)
    | 6, _ => exact u_known hts xok_6.1 (hts _ wins_X6)
    | 7, _ => exact u_known hts xok_7.1 (hts _ wins_X7)
    | 8, _ => exact u_known hts xok_8.1 (hts _ wins_X8)
    | 9, _ => exact u_known hts xok_9.1 (hts _ wins_X9)
    | 10, _ => exact u_known hts xok_10.1 (hts _ wins_X10)
    | 11, _ => exact u_known hts xok_11.1 (hts _ wins_X11)
  have h2 : ∀ k, k < 5 → ∃ c : ClassId, s.vm.findClass (xEx.getD k "") = some c := by
    intro k hk
    obtain ⟨c, _, hc, -⟩ := Cond.castable_spec (args := args) (first := s) (o := none) (idx := []) (hts _ (xct_cast hk))
    exact ⟨c, hc⟩
  have h3 : ∀ ci : Nat, ∃ y : ClassId × (Nat → Nat), (ci < 12 → u_Kn s (xNm ci) (xT ci) (xN ci) y.1 y.2) ∧ ∀ k, k < 5 → ci = 20 + k → s.vm.findClass (xEx.getD k "") = some y.1 := by
    intro ci
    by_cases a : ci < 12
    · obtain ⟨c, i, h⟩ := h1 ci a
      exact ⟨(c, i), fun _ => h, fun k hk e => by omega⟩
    · by_cases b : 20 ≤ ci ∧ ci < 25
      · obtain ⟨c, h⟩ := h2 (ci - 20) (by omega)
        refine ⟨(c, fun _ => 0), fun q => absurd q a, fun k hk e => ?_⟩
        rw [show k = ci - 20 by omega]
        exact h
      · exact ⟨(0, fun _ => 0), fun q => absurd q a, fun k hk e => by omega⟩
  obtain ⟨f, hf⟩ := Classical.axiomOfChoice h3
  exact ⟨(fun i => (f i).1, fun i => (f i).2), fun ci h => (hf ci).1 h, fun k h => (hf (20 + k)).2 k h rfl⟩
/-! the texts -/
def xtm (q : String × Nat × String) : Term := .string q.1 q.2.1
def xvl (q : String × Nat × String) : Term := .field (xtm q) "java/lang/String" "value" "[B"
def xsw (q : String × Nat × String) : List Cond := [.exactly (xtm q) "java/lang/String", .eq (.field (xtm q) "java/lang/String" "coder" "B") (.int 0), .arrayOf (xvl q) .byte, .eq (.length (xvl q)) (.int (Int32.ofNat (xtb q.2.2).length))] ++
  (List.range (xtb q.2.2).length).map (fun j => .eq (.elem (xvl q) (.int (Int32.ofNat j))) (.int ((xtb q.2.2).getD j 0)))
theorem xsw_all : ∀ w ∈ xStr.flatMap xsw, w ∈ flatC narrow_1 := by
  have h : (flatC narrow_1).drop ((flatC narrow_1).length - (xStr.flatMap xsw).length) = xStr.flatMap xsw := by decide +kernel
  intro w hw
  rw [← h] at hw
  exact List.mem_of_mem_drop hw
theorem xsr_all : ∀ q ∈ xStr, Cond.stringRef q.1 q.2.1 q.2.2 ∈ lw_tbl := by decide +kernel
theorem xtb_len : ∀ q ∈ xStr, (xtb q.2.2).length < 2 ^ 31 := by decide +kernel
theorem xtb_inj : ∀ i, i < 26 → ∀ j, j < 26 → xtb (xStr.getD i ("", 0, "")).2.2 = xtb (xStr.getD j ("", 0, "")).2.2 → i = j := by decide +kernel
/-- one text's facts -/
def xe_Tx (A : Nat → Prop) (s : State) (q : String × Nat × String) (a v : Nat) : Prop := va_O "java/lang/String" a A s s.heap ∧ va_OF "java/lang/String" "coder" "B" (.int 0) a A s s.heap ∧ va_OF "java/lang/String" "value" "[B" (.ref v) a A s s.heap ∧ va_T .byte v (xtb q.2.2).length (fun j => .int ((xtb q.2.2).getD j 0)) A s s.heap
theorem xe_text {args : Array Value} {s : State} {A : Nat → Prop} (hA : ∀ a : Nat, a < s.heap.size → ¬ A a) (hs : ∀ w ∈ flatC narrow_1, w.before args s = true) {q : String × Nat × String} (hq : q ∈ xStr) : ∃ a v : Nat, xe_Tx A s q a v ∧ (xtm q).eval args s none [] s = some (.ref a) := by
  have hw : ∀ w ∈ xsw q, w.before args s = true := fun w h => hs w (xsw_all w (List.mem_flatMap.mpr ⟨q, hq, h⟩))
  obtain ⟨adK, adV, ⟨h1, -⟩, h2⟩ := vk_Sof (args := args) (s := s) (N := 1) (tm := fun _ => xtm q) (len := [(xtb q.2.2).length]) (byt := [xtb q.2.2]) (A := A)
    (fun i hi => by rw [show i = 0 by omega]; exact xtb_len q hq)
    (fun i hi => hw _ (by simp [xsw])) (fun i hi => hw _ (by simp [xsw])) (fun i hi => hw _ (by simp [xsw, xvl]))
    (fun i hi => by rw [show i = 0 by omega]; exact hw _ (by simp [xsw, xvl]))
    (fun i hi j hj => by
      rw [show i = 0 by omega] at hj ⊢
      exact hw _ (List.mem_append_right _ (List.mem_map.mpr ⟨j, List.mem_range.mpr hj, rfl⟩)))
    (fun i j hi hj hne => absurd (show i = j by omega) hne) hA
  exact ⟨adK 0, adV 0, h1 0 (by omega), h2 0 (by omega)⟩
theorem xStr_len : xStr.length = 26 := by decide +kernel
theorem xStr_get {i : Nat} (h : i < 26) : xStr[i]? = some (xStr.getD i ("", 0, "")) ∧ xStr.getD i ("", 0, "") ∈ xStr := by
  have h' : i < xStr.length := by rw [xStr_len]; exact h
  have e : xStr.getD i ("", 0, "") = xStr[i] := by simp [List.getD, h']
  rw [e]
  exact ⟨List.getElem?_eq_getElem h', List.getElem_mem h'⟩
/-- two texts at one address are one text -/
theorem xe_same {A : Nat → Prop} {s : State} {q r : String × Nat × String} {a b v w : Nat} (hq : q ∈ xStr) (hr : r ∈ xStr) (h : xe_Tx A s q a v) (g : xe_Tx A s r b w) (e : a = b) : xtb q.2.2 = xtb r.2.2 := by
  subst e
  obtain ⟨-, -, ⟨c1, k1, i1, f1, x1, p1, -, p3, -, p5, -⟩, ⟨y1, p6, -, -, -, p7, p8, -⟩⟩ := h
  obtain ⟨-, -, ⟨c2, k2, i2, f2, x2, r1, -, r3, -, r5, -⟩, ⟨y2, r6, -, -, -, r7, r8, -⟩⟩ := g
  cases Option.some.inj (p1.symm.trans r1)
  cases Option.some.inj (p3.symm.trans r3)
  cases Option.some.inj (p5.symm.trans r5)
  cases Option.some.inj (p6.symm.trans r6)
  have e1 : Int32.ofNat (xtb q.2.2).length = Int32.ofNat (xtb r.2.2).length := p7.symm.trans r7
  have l1 := xtb_len q hq
  have l2 := xtb_len r hr
  have e2 : (xtb q.2.2).length = (xtb r.2.2).length := by
    have e3 := congrArg Int32.toInt e1
    rw [Int32.toInt_ofNat_of_lt l1, Int32.toInt_ofNat_of_lt l2] at e3
    exact Int.ofNat.inj e3
  refine List.ext_getElem e2 fun j h1 h2 => ?_
  have e4 := (p8 j h1).symm.trans (r8 j h2)
  have e5 := Value.int.inj (Option.some.inj e4)
  simpa [List.getD, h1, h2] using e5
theorem xe_nc : ∀ a, a < 5 → ∀ b, b < 5 → a ≠ b → Cond.not (.castable (xEx.getD a "") (xEx.getD b "")) ∈ flatC narrow_1 := by decide +kernel
theorem xe_isRef {args : Array Value} {s : State} {t : Term} (h : (Cond.isRef t).before args s = true) : t.eval args s none [] s = some .null ∨ ∃ a, t.eval args s none [] s = some (.ref a) := by
  simp only [Cond.before, Cond.holds, Cond.value] at h
  cases e : t.eval args s none [] s with
  | none => rw [e] at h; simp at h
  | some v =>
    rw [e] at h
    cases v with
    | null => exact Or.inl rfl
    | ref a => exact Or.inr ⟨a, rfl⟩
    | _ => simp at h
/-- the static facts hold at the law's entry -/
theorem xe_S {args : Array Value} {s : State} {b L : Nat} {xs : Nat → Int32} (hts : ∀ w ∈ lw_tbl, w.before args s = true) (hs : ∀ w ∈ flatC narrow_1, w.before args s = true) (hX : va_X b L xs s s.heap) (hb : b < s.heap.size) :
    ∃ G : xG, G.1 = s.heap.size ∧ G.2.2.2.1 0 = b ∧ G.2.2.2.2.1 = L ∧ G.2.2.2.2.2 = xs ∧ xS G s := by
  have hws : ∀ w ∈ xWS, w.before args s = true := fun w hw => hts w (List.mem_filter.mp hw).1
  obtain ⟨D, hD, hDx⟩ := xe_cls hws
  have hA : ∀ a : Nat, a < s.heap.size → ¬ (fun q => s.heap.size ≤ q) a := fun a ha q => absurd ha (Nat.not_lt.mpr q)
  have ht : ∀ i : Nat, ∃ y : Nat × Nat, i < 26 → xe_Tx (fun q => s.heap.size ≤ q) s (xStr.getD i ("", 0, "")) y.1 y.2 ∧ (xtm (xStr.getD i ("", 0, ""))).eval args s none [] s = some (.ref y.1) := by
    intro i
    by_cases hi : i < 26
    · obtain ⟨a, v, h1, h2⟩ := xe_text hA hs (xStr_get hi).2
      exact ⟨(a, v), fun _ => ⟨h1, h2⟩⟩
    · exact ⟨(0, 0), fun q => absurd q hi⟩
  obtain ⟨f, hf⟩ := Classical.axiomOfChoice ht
  obtain ⟨sf, hsf⟩ : ∃ sf : Nat, (Term.static "jdk/internal/util/Preconditions" "SIOOBE_FORMATTER" "Ljava/util/function/BiFunction;").eval args s none [] s = some .null ∨ (Term.static "jdk/internal/util/Preconditions" "SIOOBE_FORMATTER" "Ljava/util/function/BiFunction;").eval args s none [] s = some (.ref sf) := by
    rcases xe_isRef (hs (.isRef (.static "jdk/internal/util/Preconditions" "SIOOBE_FORMATTER" "Ljava/util/function/BiFunction;")) (by decide +kernel)) with h | ⟨a, h⟩
    · exact ⟨0, Or.inl h⟩
    · exact ⟨a, Or.inr h⟩
  obtain ⟨old, ho0, hoK, hoV, ho2⟩ : ∃ old : Nat → Nat, old 0 = b ∧ (∀ i, i < 26 → old (i + 1) = (f i).1) ∧ (∀ i, i < 26 → old (100 + i) = (f i).2) ∧ old 200 = sf := by
    refine ⟨fun k => if k = 0 then b else if k < 100 then (f (k - 1)).1 else if k < 200 then (f (k - 100)).2 else sf, rfl, fun i hi => ?_, fun i hi => ?_, rfl⟩
    · show (if i + 1 = 0 then _ else _) = _
      rw [if_neg (by omega), if_pos (by omega), Nat.add_sub_cancel]
    · show (if 100 + i = 0 then _ else _) = _
      rw [if_neg (by omega), if_neg (by omega), if_pos (by omega), Nat.add_sub_cancel_left]
  obtain ⟨c0, a0, n0⟩ := xe_arr (hws _ war_int)
  obtain ⟨c1, a1, n1⟩ := xe_arr (hws _ war_byte)
  obtain ⟨c2, a2, n2⟩ := xe_arr (hws _ war_long)
  obtain ⟨c3, a3, n3⟩ := xe_arr (hws _ war_boolean)
  have hov : (Cond.arrayOver (.array .int)).before args s = true := hts _ (by decide +kernel)
  obtain ⟨c4, a4, n4⟩ := xe_arrA hov
  obtain ⟨ar, r0, r1, r2, r3, r4⟩ : ∃ ar : FieldType → ClassId, ar .int = c0 ∧ ar .byte = c1 ∧ ar .long = c2 ∧ ar .boolean = c3 ∧ ar (.array .int) = c4 := by
    refine ⟨fun t => match t with | .int => c0 | .byte => c1 | .long => c2 | .boolean => c3 | _ => c4, rfl, rfl, rfl, rfl, rfl⟩
  subst r0 r1 r2 r3 r4
  refine ⟨(s.heap.size, D, ar, old, L, xs), rfl, ho0, rfl, rfl, ⟨?_, ?_⟩, ?_, ?_, ?_, ?_, ?_, ?_, ?_, ?_, ?_, ?_, Nat.le_refl _, hov⟩
  · intro ci q hq
    have hlt : ci < 12 := (List.getElem?_eq_some_iff.mp hq).1
    have := xCl_at hlt
    cases Option.some.inj (hq.symm.trans this)
    exact hD ci hlt
  · intro k q hq
    match k, hq with
    | 0, hq => cases hq; exact ⟨a0, n0⟩
    | 1, hq => cases hq; exact ⟨a1, n1⟩
    | 2, hq => cases hq; exact ⟨a2, n2⟩
    | 3, hq => cases hq; exact ⟨a3, n3⟩
    | 4, hq => cases hq; exact ⟨a4, n4⟩
  · intro k nm hk
    have hlt : k < 5 := (List.getElem?_eq_some_iff.mp hk).1
    cases Option.some.inj (hk.symm.trans (xEx_get hlt))
    exact hDx k hlt
  · exact fun a b ha hb hn => va_Nc.of (hs _ (xe_nc a ha b hb hn))
  · intro i q hq
    have hlt : i < 26 := by rw [← xStr_len]; exact (List.getElem?_eq_some_iff.mp hq).1
    obtain ⟨g1, g2⟩ := xStr_get hlt
    cases Option.some.inj (hq.symm.trans g1)
    refine vk_R.of (A := args) (hts _ (xsr_all _ g2)) ?_
    show _ = some (Value.ref (old (i + 1)))
    rw [hoK i hlt]
    exact (hf i hlt).2
  · refine ⟨fun i hi => ?_, fun i j hi hj e => ?_⟩
    · have h := (hf i hi).1
      have e1 : (xStr.map (fun q => (xtb q.2.2).length)).getD i 0 = (xtb (xStr.getD i ("", 0, "")).2.2).length := by
        rw [List.getD_eq_getElem?_getD, List.getElem?_map, (xStr_get hi).1, Option.map_some, Option.getD_some]
      have e2 : (xStr.map (fun q => xtb q.2.2)).getD i [] = xtb (xStr.getD i ("", 0, "")).2.2 := by
        rw [List.getD_eq_getElem?_getD, List.getElem?_map, (xStr_get hi).1, Option.map_some, Option.getD_some]
      rw [e1, e2]
      show va_O _ (old (i + 1)) _ _ _ ∧ va_OF _ _ _ _ (old (i + 1)) _ _ _ ∧ va_OF _ _ _ (.ref (old (100 + i))) (old (i + 1)) _ _ _ ∧ va_T _ (old (100 + i)) _ _ _ _ _
      rw [hoK i hi, hoV i hi]
      exact h
    · have e : old (i + 1) = old (j + 1) := e
      rw [hoK i hi, hoK j hj] at e
      exact xtb_inj i hi j hj (xe_same (xStr_get hi).2 (xStr_get hj).2 (hf i hi).1 (hf j hj).1 e)
  · exact va_Zof (hts _ (by decide +kernel)) (hts _ (by decide +kernel)) (va_eqi (hs _ (by decide +kernel))) hA
  · rcases hsf with h | h
    · exact Or.inl (va_Zof (hts _ (by decide +kernel)) (hts _ (by decide +kernel)) h hA)
    · refine Or.inr (va_Zof (hts _ (by decide +kernel)) (hts _ (by decide +kernel)) ?_ hA)
      show _ = some (Value.ref (old 200))
      rw [ho2]
      exact h
  · exact vx_Zqof (hts _ (by decide +kernel)) (hts _ (by decide +kernel)) (hs _ (by decide +kernel)) hA
  · exact vx_Zqof (hts _ (by decide +kernel)) (hts _ (by decide +kernel)) (hs _ (by decide +kernel)) hA
  · show va_X (old 0) L xs s s.heap
    rw [ho0]
    exact hX
  · show old 0 < s.heap.size
    rw [ho0]
    exact hb
