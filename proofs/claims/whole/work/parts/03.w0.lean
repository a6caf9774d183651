abbrev xM : Type := MethodName × ByteArray × Nat × Option FieldType × List (Nat × Nat × Nat × Nat)
def xN (ci : Nat) : Nat := match vwCl[ci]? with
  | some r => r.2.2
  | none => 0
/-! words that stay, in warmer tables -/
def xgw (w : Cond) : Bool := goodWord w || (match w with
  | .castable .. => true
  | .declares .. => true
  | .methodLinkNest .. => true
  | _ => false)
theorem xw_at {args a' : Array Value} {s U : State} (hW : s.WarmedH U.vm) {w : Cond} (hg : xgw w = true) (h : w.before args s = true) : w.before a' U = true := by
  by_cases hg1 : goodWord w = true
  · exact word_at hW (good_of_word hg1) h
  · cases w with
    | castable a b => exact va_tabs rfl (rfl : (s.setVm U.vm).vm = U.vm) (Cond.before_warmed hW _ trivial h)
    | declares a => exact va_tabs rfl (rfl : (s.setVm U.vm).vm = U.vm) (Cond.before_warmed hW _ trivial h)
    | methodLinkNest a i x hst => exact va_Nw.use rfl (va_Nw.warmM hW (va_Nw.of rfl h))
    | _ => simp [xgw, hg1] at hg
def xWS : List Cond := lw_tbl.filter xgw
theorem xWS_at {s U : State} {args a' : Array Value} (hW : s.WarmedH U.vm) (h : ∀ w ∈ xWS, w.before args s = true) : ∀ w ∈ xWS, w.before a' U = true := fun w hw => xw_at hW (List.mem_filter.mp hw).2 (h w hw)
theorem xWS_in {w : Cond} (i : Nat) (h : lw_tbl[i]? = some w) (hg : xgw w = true) : w ∈ xWS := List.mem_filter.mpr ⟨List.mem_of_getElem? h, hg⟩
/-! classes by their numbers -/
def xNm (ci : Nat) : String := match vwCl[ci]? with
  | some r => r.1
  | none => ""
def xT (ci : Nat) : u_T := match vwCl[ci]? with
  | some r => r.2.1
  | none => fun _ => ("", "", "", false)
def xTy (ci : Nat) : Nat → FieldType := match ci with
  | 0 => tyX0 | 1 => tyX1 | 2 => tyX2 | 3 => tyX3 | 4 => tyX4 | 5 => tyX5 | 6 => tyX6 | 7 => tyX7 | 8 => tyX8 | 9 => tyX9 | 10 => tyX10 | _ => tyX11
def xClOk (ci : Nat) : Prop := (∀ w ∈ u_ws (xNm ci) (xT ci) (xN ci), w ∈ xWS) ∧ (∀ k, k < xN ci → parseFieldDescriptor (xT ci k).2.2.1 = some (xTy ci k)) ∧ (∀ a, a < xN ci → ∀ b, b < xN ci → a ≠ b → (xT ci a).2.1 ≠ (xT ci b).2.1)
theorem xCl_at {ci : Nat} (h : ci < 12) : vwCl[ci]? = some (xNm ci, xT ci, xN ci) := by
  match ci, h with
  | 0, _ => rfl | 1, _ => rfl | 2, _ => rfl | 3, _ => rfl | 4, _ => rfl | 5, _ => rfl | 6, _ => rfl | 7, _ => rfl | 8, _ => rfl | 9, _ => rfl | 10, _ => rfl | 11, _ => rfl
/-- the pool's entry idx of the class own names the field k of the class ci -/
def xF (own : String) (idx ci k : Nat) : Prop := ci < 12 ∧ k < xN ci ∧ Cond.fieldLink own idx (xT ci k).1 (xT ci k).2.1 (xT ci k).2.2.1 ∈ xWS ∧ xClOk ci
/-- what the tables say of a call: the words, the parameters -/
def xCw (M : xM) (n : Nat) : Prop := Cond.code M.1 M.2.1 M.2.2.1 M.2.2.2.1 ∈ xWS ∧ Cond.initialized M.1.cls ∈ xWS ∧ (M.1.cls ≠ "java/lang/invoke/MethodHandle" ∧ M.1.cls ≠ "java/lang/invoke/VarHandle") ∧ (parseMethodDescriptor M.1.desc).map (fun d => d.parameters.length) = some n
