/-! the start -/
def val (c : xC) (i : Int) : Int := match c with
  | .inl (_, _, .inl f) => (f i.toNat).toInt
  | .inr (_, fs) => (match fs[i.toNat]? with | some (.int x) => x.toInt | _ => 0)
  | _ => 0
def valq (c : xC) (i : Int) : Int64 := match c with
  | .inl (_, _, .inr (.inl f)) => f i.toNat
  | _ => 0
theorem mkc_val (c : xC) : mkc (val c) (valq c) (shp c) = c := by
  match c with
  | .inl (t, n, .inl f) =>
    show Sum.inl (t, n, Sum.inl (fun i : Nat => J (f ((i : Int)).toNat).toInt)) = _
    simp only [J_toInt, Int.toNat_natCast]
  | .inl (t, n, .inr (.inl f)) =>
    show Sum.inl (t, n, Sum.inr (Sum.inl (fun i : Nat => f ((i : Int)).toNat))) = _
    simp only [Int.toNat_natCast]
  | .inl (t, n, .inr (.inr f)) => rfl
  | .inr (ci, fs) =>
    show Sum.inr (ci, fillv (val (.inr (ci, fs))) 0 (fs.map zv)) = _
    refine congrArg (fun z => Sum.inr (ci, z)) (List.ext_getElem? fun k => ?_)
    rw [fillv_get, List.getElem?_map, Nat.zero_add]
    cases h : fs[k]? with
    | none => rfl
    | some v =>
      simp only [Option.map_some]
      cases v with
      | int x =>
        show some (Value.int (J (val (.inr (ci, fs)) (k : Int)))) = _
        have e : val (.inr (ci, fs)) (k : Int) = x.toInt := by
          show (match fs[((k : Int)).toNat]? with | some (.int x) => x.toInt | _ => 0) = _
          rw [Int.toNat_natCast, h]
        rw [e, J_toInt]
      | _ => rfl
theorem hp_val (P : xH) : P = hp (P.1, P.2.1, fun j => shp (P.2.2 j)) (fun a => val (P.2.2 a)) (fun a => valq (P.2.2 a)) := by
  show P = (P.1, P.2.1, fun a => mkc (val (P.2.2 a)) (valq (P.2.2 a)) (shp (P.2.2 a)))
  simp only [mkc_val]
theorem cntw_zero {v : Int → Int} {p : Int} (h : ∀ i, v i = 0) : ∀ n, cntw v p n = 0
  | 0 => rfl
  | n + 1 => by rw [cntw, cntw_zero h n, h, if_neg (by decide), Int.add_zero]
theorem cntp_zero {v : Int → Int} {x : Int} (h : ∀ i, v i = 0) : ∀ n, cntp v x n = 0
  | 0 => rfl
  | n + 1 => by rw [cntp, cntp_zero h n, h, if_neg (by decide), Int.add_zero]
theorem start_M : InvM (153, 26273, fun j => shp (cell0 j)) (fun a => val (cell0 a)) (fun a => valq (cell0 a)) := by
  have w : ∀ i : Int, val (cell0 139) i = if i.toNat = 6 then 1 else if i.toNat = 7 then 10 else 0 := fun i => by
    show (upd (upd (fun _ => 0) 6 1) 7 10 i.toNat).toInt = _
    unfold upd
    by_cases c : i.toNat = 7
    · rw [if_pos c, if_neg (by omega), if_pos c]
      rfl
    · rw [if_neg c]
      by_cases d : i.toNat = 6
      · rw [if_pos d, if_pos d]
        rfl
      · rw [if_neg d, if_neg d, if_neg c]
        rfl
  have v : ∀ i : Int, val (cell0 137) i = 0 := fun _ => rfl
  have w0 : ∀ i : Int, 0 ≤ i → i ≠ 6 → i ≠ 7 → val (cell0 139) i = 0 := fun i a b c => by
    rw [w, if_neg (by omega), if_neg (by omega)]
  have wz : val (cell0 139) 0 = 0 := w0 0 (by omega) (by omega) (by omega)
  have w1 : val (cell0 139) 1 = 0 := w0 1 (by omega) (by omega) (by omega)
  refine InvM.mk ⟨⟨rfl, by decide, by decide, rfl, by decide, by decide, fun i i0 i1 => absurd i1 (by show ¬ i < 0; omega)⟩, rfl, rfl, ⟨?_, ?_, ?_, ?_, ?_, ?_, ?_, ?_, ?_, ?_, ?_, ?_, ?_⟩, ⟨rfl, Or.inl ⟨rfl, rfl⟩⟩⟩
  · rw [Rpar, w 6, w 7]
    exact ⟨rfl, by decide, by decide, rfl, by decide, by decide⟩
  · refine ⟨by decide, by decide, fun p p0 p1 => ?_⟩
    rw [w0 _ (by omega) (by omega) (by omega)]
    show (0 : Int) = if (0 : Int).toNat.testBit p.toNat = true then 1 else 0
    simp
  · have z : val (cell0 139) 8 = 0 := w0 8 (by omega) (by omega) (by omega)
    exact ⟨by rw [z]; rfl, by omega, by omega, fun k k0 k1 => by omega⟩
  · have z : val (cell0 139) 9 = 0 := w0 9 (by omega) (by omega) (by omega)
    exact ⟨by rw [z]; rfl, by omega, by omega, fun k k0 k1 => by omega⟩
  · have z : val (cell0 139) 10 = 0 := w0 10 (by omega) (by omega) (by omega)
    exact ⟨by rw [z]; rfl, by omega, by omega, fun k k0 k1 => by omega⟩
  · refine ⟨by rw [w1]; rfl, by omega, by omega, fun x k x0 x1 => by omega, fun x x0 x1 => by omega, fun x y x0 xy y1 => by omega, fun x k x0 x1 k0 k1 k2 => ?_, fun x x0 x1 => ⟨?_, ?_, fun u u0 u1 => ?_⟩⟩
    · rcases (show k = 4 ∨ k = 5 ∨ k = 6 ∨ k = 7 ∨ k = 9 by omega) with rfl | rfl | rfl | rfl | rfl <;> rfl
    · show (0 : Int) ≤ 0
      omega
    · show (0 : Int) < 1073741824
      omega
    · show (0 : Int).toNat.testBit u.toNat = true ↔ _
      simp
      intro h
      omega
  · intro l l0 l1
    have z : val (cell0 139) (2 + l) = 0 := w0 _ (by omega) (by omega) (by omega)
    exact ⟨by rw [z]; rfl, by omega, by omega, fun k k0 k1 => by omega⟩
  · exact ⟨rfl, fun i i0 i1 => absurd i1 (by show ¬ i < min 8 0; omega)⟩
  · have z : val (cell0 139) (4239 + 0) = 0 := w0 _ (by omega) (by omega) (by omega)
    refine ⟨z.symm, by show 0 ≤ val (cell0 139) (4239 + 0); omega, by show val (cell0 139) (4239 + 0) ≤ 10; omega, by decide, by decide, fun n n0 n1 => ?_, fun i i0 i1 => absurd i1 (by show ¬ i < 0; omega)⟩
    have n1 : n < val (cell0 139) (4239 + 0) := n1
    omega
  · exact ⟨by omega, by omega, fun p p0 p1 => by omega⟩
  · intro p p0 p1
    omega
  · refine ⟨⟨wz.symm, rfl, w1.symm, by rw [v]; decide, by rw [v]; decide, by omega, by omega⟩, fun p p0 p1 => by omega, fun p p0 p1 => ⟨?_, by show (0 : Int) ≤ 0; omega, by show (0 : Int) < 1073741824; omega, fun _ => ⟨rfl, rfl, rfl⟩⟩, fun p x p0 p1 x0 x1 => ⟨?_, fun z => ?_⟩, fun x x0 x1 => ⟨?_, fun _ => ?_, fun _ => rfl⟩, fun x x0 x1 => by omega⟩
    · exact (cntw_zero v 30).symm
    · rw [v]
      show (0 : Int) = if (0 : Int).toNat.testBit x.toNat = true then 1 else 0
      simp
    · rw [v] at z
      omega
    · exact (cntp_zero v 10).symm
    · show (if 0 ≤ x.toNat ∧ x.toNat < 30 then (-1 : Int32) else 0).toInt = -1
      rw [if_pos (by omega)]
      rfl
  · intro h
    rw [v] at h
    omega
theorem start_Sk : Sk (153, 26273, fun j => shp (cell0 j)) := by
  refine ⟨fun j h0 h1 h2 => sp0 j h1, ⟨.null, ?_⟩, 10, Or.inr rfl, ?_⟩
  · exact sp0 0 (by decide)
  · exact sp0 111 (by decide)
theorem start_Inv : ∃ P, Inv 0 P ∧ ∀ N sc z, Lv N sc 23 [.ref 0, .ref 136, .ref 152, .int 0] P z → Lv N sc 0 [] xP0 z := by
  obtain ⟨P, h1, h2, h3, h4⟩ := law_start
  refine ⟨P, ⟨_, _, _, hp_val P, ?_, ?_, ?_⟩, h4⟩
  · rw [h1, h2]
    simp only [h3]
    exact start_Sk
  · rw [h1, h2]
    exact ⟨show 153 ≤ 153 by decide, show 153 ≤ 255 + 102 * 0 by decide, show 26273 ≤ 31231 + 5000 * 0 by decide⟩
  · rw [h1, h2]
    simp only [h3]
    exact start_M
