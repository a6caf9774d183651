/-! a call that may throw: out of what class and reference answer -/
theorem xcat_hp (S : xH) (m : Nat → Int → Int) (q : Nat → Int → Int64) {k : Nat} (h : k < 5) : xcat (hp (xth S k) m q) S.1 = some k := by
  have e : (hp (xth S k) m q).2.2 S.1 = .inr (20 + k, []) := by
    rw [hp_cell, show (xth S k).2.2 S.1 = .inr (20 + k, []) from xnew_at _ _ _]
    rfl
  unfold xcat
  rw [e]
  simp only
  rw [if_pos (by omega), Nat.add_sub_cancel_left]
theorem oA_of {fX fM : Nat → Nat → List Value → xH → xO} {as : List Value} {S : xH} {m m1 m2 : Nat → Int → Int} {q q1 : Nat → Int → Int64} {v : Int32} {I : xH → Prop} (hs : Sk S) (hc : De (fun n => fX n 0 (.ref 0 :: as) (hp S m q)) (.inl (some (.int v))) (hp S m1 q1)) (hm : De (fun n => fM n 0 (.ref 136 :: as) (hp S m1 q1)) (.inl (some (.int v))) (hp S m2 q1)) (hI : I (hp S m2 q1)) : oA 0 136 fX fM as (hp S m q) I :=
  ⟨v, _, _, hc, x136_k hs, hm, hI⟩
theorem aJ_out {S : xH} {m : Nat → Int → Int} {q : Nat → Int → Int64} {y : Int64} (hs : Sk S) : aJ (hp S m (uq q 152 0 y)) 152 0 = some y := by
  rw [J_lit, x152_g hs (by omega) (by omega), uq_at]
section LAWX
variable {S : xH} {m m1 m2 : Nat → Int → Int} {q q1 : Nat → Int → Int64} {I : xH → Prop} {v b : Int32}
theorem ob_phone_ok {v1 v2 v3 v4 : Int32} (hs : Sk S) (hc : De (fun n => f_X10_phone n 0 [.ref 0, .int v1, .int v2, .int v3, .int v4] (hp S m q)) (.inl (some (.int v))) (hp S m1 q1)) (hm : De (fun n => f_X11_phone n 0 [.ref 136, .int v1, .int v2, .int v3, .int v4] (hp S m1 (uq q1 152 0 (Int32.toInt64 v)))) (.inl (some (.int v))) (hp S m2 (uq q1 152 0 (Int32.toInt64 v)))) (ht : m2 136 0 = 0) (hI : I (hp S m2 (uq q1 152 0 (Int32.toInt64 v)))) : oB 0 136 152 f_L_phone f_X11_phone [.int v1, .int v2, .int v3, .int v4] (hp S m q) I := by
  refine ⟨J 0, v, _, _, ?_, x136_k hs, hm, x136_k hs, De.eq 1 (fun n => by rw [e_thrown hs, ht]), fun _ => aJ_out hs, hI⟩
  show De (fun n => f_L_phone n 0 [.ref 0, .int v1, .int v2, .int v3, .int v4, .ref 152] (hp S m q)) _ _
  refine De.step ?_
  simp only [j_L_phone_0, b_L_phone_0, x0_k hs, Option.bind_some]
  refine De.call hc ?_
  simp only [xIh]
  simp (disch := omega) only [J_lit, x152_s hs, Option.bind_some]
  exact De.ret _ _
theorem ob_phone_t0 {v1 v2 v3 v4 : Int32} (hs : Sk S) (hr : 153 ≤ S.1) (hc : De (fun n => f_X10_phone n 0 [.ref 0, .int v1, .int v2, .int v3, .int v4] (hp S m q)) (.inr S.1) (hp (xth S 0) m1 q1)) (hm : De (fun n => f_X11_phone n 0 [.ref 136, .int v1, .int v2, .int v3, .int v4] (hp (xth S 0) m1 q1)) (.inl (some (.int b))) (hp (xth S 0) m2 q1)) (ht : m2 136 0 = 1) (hI : I (hp (xth S 0) m2 q1)) : oB 0 136 152 f_L_phone f_X11_phone [.int v1, .int v2, .int v3, .int v4] (hp S m q) I := by
  have hs2 : Sk (xth S 0) := hs.grow (Grow.th S 0) hr
  refine ⟨J 1, b, _, _, ?_, x136_k hs2, hm, x136_k hs2, De.eq 1 (fun n => by rw [e_thrown hs2, ht]), fun z => absurd z (by decide), hI⟩
  show De (fun n => f_L_phone n 0 [.ref 0, .int v1, .int v2, .int v3, .int v4, .ref 152] (hp S m q)) _ _
  refine De.step ?_
  simp only [j_L_phone_0, b_L_phone_0, x0_k hs, Option.bind_some]
  refine De.call hc ?_
  simp only [xIh]
  simp only [xcat_hp S _ _ (show 0 < 5 by decide), Option.bind_some, if_true, if_false, J_lit]
  exact De.ret _ _
theorem ob_phone_t1 {v1 v2 v3 v4 : Int32} (hs : Sk S) (hr : 153 ≤ S.1) (hc : De (fun n => f_X10_phone n 0 [.ref 0, .int v1, .int v2, .int v3, .int v4] (hp S m q)) (.inr S.1) (hp (xth S 1) m1 q1)) (hm : De (fun n => f_X11_phone n 0 [.ref 136, .int v1, .int v2, .int v3, .int v4] (hp (xth S 1) m1 q1)) (.inl (some (.int b))) (hp (xth S 1) m2 q1)) (ht : m2 136 0 = 2) (hI : I (hp (xth S 1) m2 q1)) : oB 0 136 152 f_L_phone f_X11_phone [.int v1, .int v2, .int v3, .int v4] (hp S m q) I := by
  have hs2 : Sk (xth S 1) := hs.grow (Grow.th S 1) hr
  refine ⟨J 2, b, _, _, ?_, x136_k hs2, hm, x136_k hs2, De.eq 1 (fun n => by rw [e_thrown hs2, ht]), fun z => absurd z (by decide), hI⟩
  show De (fun n => f_L_phone n 0 [.ref 0, .int v1, .int v2, .int v3, .int v4, .ref 152] (hp S m q)) _ _
  refine De.step ?_
  simp only [j_L_phone_0, b_L_phone_0, x0_k hs, Option.bind_some]
  refine De.call hc ?_
  simp only [xIh]
  simp only [xcat_hp S _ _ (show 1 < 5 by decide), Option.bind_some, show ((1 : Nat) = 0) = False from eq_false (by decide), if_true, if_false, J_lit]
  exact De.ret _ _
theorem ob_phone_t2 {v1 v2 v3 v4 : Int32} (hs : Sk S) (hr : 153 ≤ S.1) (hc : De (fun n => f_X10_phone n 0 [.ref 0, .int v1, .int v2, .int v3, .int v4] (hp S m q)) (.inr S.1) (hp (xth S 2) m1 q1)) (hm : De (fun n => f_X11_phone n 0 [.ref 136, .int v1, .int v2, .int v3, .int v4] (hp (xth S 2) m1 q1)) (.inl (some (.int b))) (hp (xth S 2) m2 q1)) (ht : m2 136 0 = 3) (hI : I (hp (xth S 2) m2 q1)) : oB 0 136 152 f_L_phone f_X11_phone [.int v1, .int v2, .int v3, .int v4] (hp S m q) I := by
  have hs2 : Sk (xth S 2) := hs.grow (Grow.th S 2) hr
  refine ⟨J 3, b, _, _, ?_, x136_k hs2, hm, x136_k hs2, De.eq 1 (fun n => by rw [e_thrown hs2, ht]), fun z => absurd z (by decide), hI⟩
  show De (fun n => f_L_phone n 0 [.ref 0, .int v1, .int v2, .int v3, .int v4, .ref 152] (hp S m q)) _ _
  refine De.step ?_
  simp only [j_L_phone_0, b_L_phone_0, x0_k hs, Option.bind_some]
  refine De.call hc ?_
  simp only [xIh]
  simp only [xcat_hp S _ _ (show 2 < 5 by decide), Option.bind_some, show ((2 : Nat) = 0) = False from eq_false (by decide), show ((2 : Nat) = 1) = False from eq_false (by decide), if_true, if_false, J_lit]
  exact De.ret _ _
theorem ob_phone_t3 {v1 v2 v3 v4 : Int32} (hs : Sk S) (hr : 153 ≤ S.1) (hc : De (fun n => f_X10_phone n 0 [.ref 0, .int v1, .int v2, .int v3, .int v4] (hp S m q)) (.inr S.1) (hp (xth S 3) m1 q1)) (hm : De (fun n => f_X11_phone n 0 [.ref 136, .int v1, .int v2, .int v3, .int v4] (hp (xth S 3) m1 q1)) (.inl (some (.int b))) (hp (xth S 3) m2 q1)) (ht : m2 136 0 = 4) (hI : I (hp (xth S 3) m2 q1)) : oB 0 136 152 f_L_phone f_X11_phone [.int v1, .int v2, .int v3, .int v4] (hp S m q) I := by
  have hs2 : Sk (xth S 3) := hs.grow (Grow.th S 3) hr
  refine ⟨J 4, b, _, _, ?_, x136_k hs2, hm, x136_k hs2, De.eq 1 (fun n => by rw [e_thrown hs2, ht]), fun z => absurd z (by decide), hI⟩
  show De (fun n => f_L_phone n 0 [.ref 0, .int v1, .int v2, .int v3, .int v4, .ref 152] (hp S m q)) _ _
  refine De.step ?_
  simp only [j_L_phone_0, b_L_phone_0, x0_k hs, Option.bind_some]
  refine De.call hc ?_
  simp only [xIh]
  simp only [xcat_hp S _ _ (show 3 < 5 by decide), Option.bind_some, show ((3 : Nat) = 0) = False from eq_false (by decide), show ((3 : Nat) = 1) = False from eq_false (by decide), show ((3 : Nat) = 2) = False from eq_false (by decide), if_true, if_false, J_lit]
  exact De.ret _ _
theorem ob_move_ok {v1 v2 v3 v4 : Int32} (hs : Sk S) (hc : De (fun n => f_X10_move n 0 [.ref 0, .int v1, .int v2, .int v3, .int v4] (hp S m q)) (.inl (some (.int v))) (hp S m1 q1)) (hm : De (fun n => f_X11_move n 0 [.ref 136, .int v1, .int v2, .int v3, .int v4] (hp S m1 (uq q1 152 0 (Int32.toInt64 v)))) (.inl (some (.int v))) (hp S m2 (uq q1 152 0 (Int32.toInt64 v)))) (ht : m2 136 0 = 0) (hI : I (hp S m2 (uq q1 152 0 (Int32.toInt64 v)))) : oB 0 136 152 f_L_move f_X11_move [.int v1, .int v2, .int v3, .int v4] (hp S m q) I := by
  refine ⟨J 0, v, _, _, ?_, x136_k hs, hm, x136_k hs, De.eq 1 (fun n => by rw [e_thrown hs, ht]), fun _ => aJ_out hs, hI⟩
  show De (fun n => f_L_move n 0 [.ref 0, .int v1, .int v2, .int v3, .int v4, .ref 152] (hp S m q)) _ _
  refine De.step ?_
  simp only [j_L_move_0, b_L_move_0, x0_k hs, Option.bind_some]
  refine De.call hc ?_
  simp only [xIh]
  simp (disch := omega) only [J_lit, x152_s hs, Option.bind_some]
  exact De.ret _ _
theorem ob_move_t0 {v1 v2 v3 v4 : Int32} (hs : Sk S) (hr : 153 ≤ S.1) (hc : De (fun n => f_X10_move n 0 [.ref 0, .int v1, .int v2, .int v3, .int v4] (hp S m q)) (.inr S.1) (hp (xth S 0) m1 q1)) (hm : De (fun n => f_X11_move n 0 [.ref 136, .int v1, .int v2, .int v3, .int v4] (hp (xth S 0) m1 q1)) (.inl (some (.int b))) (hp (xth S 0) m2 q1)) (ht : m2 136 0 = 1) (hI : I (hp (xth S 0) m2 q1)) : oB 0 136 152 f_L_move f_X11_move [.int v1, .int v2, .int v3, .int v4] (hp S m q) I := by
  have hs2 : Sk (xth S 0) := hs.grow (Grow.th S 0) hr
  refine ⟨J 1, b, _, _, ?_, x136_k hs2, hm, x136_k hs2, De.eq 1 (fun n => by rw [e_thrown hs2, ht]), fun z => absurd z (by decide), hI⟩
  show De (fun n => f_L_move n 0 [.ref 0, .int v1, .int v2, .int v3, .int v4, .ref 152] (hp S m q)) _ _
  refine De.step ?_
  simp only [j_L_move_0, b_L_move_0, x0_k hs, Option.bind_some]
  refine De.call hc ?_
  simp only [xIh]
  simp only [xcat_hp S _ _ (show 0 < 5 by decide), Option.bind_some, if_true, if_false, J_lit]
  exact De.ret _ _
theorem ob_move_t1 {v1 v2 v3 v4 : Int32} (hs : Sk S) (hr : 153 ≤ S.1) (hc : De (fun n => f_X10_move n 0 [.ref 0, .int v1, .int v2, .int v3, .int v4] (hp S m q)) (.inr S.1) (hp (xth S 1) m1 q1)) (hm : De (fun n => f_X11_move n 0 [.ref 136, .int v1, .int v2, .int v3, .int v4] (hp (xth S 1) m1 q1)) (.inl (some (.int b))) (hp (xth S 1) m2 q1)) (ht : m2 136 0 = 2) (hI : I (hp (xth S 1) m2 q1)) : oB 0 136 152 f_L_move f_X11_move [.int v1, .int v2, .int v3, .int v4] (hp S m q) I := by
  have hs2 : Sk (xth S 1) := hs.grow (Grow.th S 1) hr
  refine ⟨J 2, b, _, _, ?_, x136_k hs2, hm, x136_k hs2, De.eq 1 (fun n => by rw [e_thrown hs2, ht]), fun z => absurd z (by decide), hI⟩
  show De (fun n => f_L_move n 0 [.ref 0, .int v1, .int v2, .int v3, .int v4, .ref 152] (hp S m q)) _ _
  refine De.step ?_
  simp only [j_L_move_0, b_L_move_0, x0_k hs, Option.bind_some]
  refine De.call hc ?_
  simp only [xIh]
  simp only [xcat_hp S _ _ (show 1 < 5 by decide), Option.bind_some, show ((1 : Nat) = 0) = False from eq_false (by decide), if_true, if_false, J_lit]
  exact De.ret _ _
theorem ob_rules_ok (hs : Sk S) (hc : De (fun n => f_X10_rules n 0 [.ref 0] (hp S m q)) (.inl (some (.int v))) (hp S m1 q1)) (hm : De (fun n => f_X11_rules n 0 [.ref 136] (hp S m1 (uq q1 152 0 (Int32.toInt64 v)))) (.inl (some (.int v))) (hp S m2 (uq q1 152 0 (Int32.toInt64 v)))) (ht : m2 136 0 = 0) (hI : I (hp S m2 (uq q1 152 0 (Int32.toInt64 v)))) : oB 0 136 152 f_L_rules f_X11_rules [] (hp S m q) I := by
  refine ⟨J 0, v, _, _, ?_, x136_k hs, hm, x136_k hs, De.eq 1 (fun n => by rw [e_thrown hs, ht]), fun _ => aJ_out hs, hI⟩
  show De (fun n => f_L_rules n 0 [.ref 0, .ref 152] (hp S m q)) _ _
  refine De.step ?_
  simp only [j_L_rules_0, b_L_rules_0, x0_k hs, Option.bind_some]
  refine De.call hc ?_
  simp only [xIh]
  simp (disch := omega) only [J_lit, x152_s hs, Option.bind_some]
  exact De.ret _ _
theorem ob_rules_t1 (hs : Sk S) (hr : 153 ≤ S.1) (hc : De (fun n => f_X10_rules n 0 [.ref 0] (hp S m q)) (.inr S.1) (hp (xth S 1) m1 q1)) (hm : De (fun n => f_X11_rules n 0 [.ref 136] (hp (xth S 1) m1 q1)) (.inl (some (.int b))) (hp (xth S 1) m2 q1)) (ht : m2 136 0 = 1) (hI : I (hp (xth S 1) m2 q1)) : oB 0 136 152 f_L_rules f_X11_rules [] (hp S m q) I := by
  have hs2 : Sk (xth S 1) := hs.grow (Grow.th S 1) hr
  refine ⟨J 1, b, _, _, ?_, x136_k hs2, hm, x136_k hs2, De.eq 1 (fun n => by rw [e_thrown hs2, ht]), fun z => absurd z (by decide), hI⟩
  show De (fun n => f_L_rules n 0 [.ref 0, .ref 152] (hp S m q)) _ _
  refine De.step ?_
  simp only [j_L_rules_0, b_L_rules_0, x0_k hs, Option.bind_some]
  refine De.call hc ?_
  simp only [xIh]
  simp only [xcat_hp S _ _ (show 1 < 5 by decide), Option.bind_some, if_true, if_false, J_lit]
  exact De.ret _ _
theorem ob_rules_t3 (hs : Sk S) (hr : 153 ≤ S.1) (hc : De (fun n => f_X10_rules n 0 [.ref 0] (hp S m q)) (.inr S.1) (hp (xth S 3) m1 q1)) (hm : De (fun n => f_X11_rules n 0 [.ref 136] (hp (xth S 3) m1 q1)) (.inl (some (.int b))) (hp (xth S 3) m2 q1)) (ht : m2 136 0 = 2) (hI : I (hp (xth S 3) m2 q1)) : oB 0 136 152 f_L_rules f_X11_rules [] (hp S m q) I := by
  have hs2 : Sk (xth S 3) := hs.grow (Grow.th S 3) hr
  refine ⟨J 2, b, _, _, ?_, x136_k hs2, hm, x136_k hs2, De.eq 1 (fun n => by rw [e_thrown hs2, ht]), fun z => absurd z (by decide), hI⟩
  show De (fun n => f_L_rules n 0 [.ref 0, .ref 152] (hp S m q)) _ _
  refine De.step ?_
  simp only [j_L_rules_0, b_L_rules_0, x0_k hs, Option.bind_some]
  refine De.call hc ?_
  simp only [xIh]
  simp only [xcat_hp S _ _ (show 3 < 5 by decide), Option.bind_some, show ((3 : Nat) = 1) = False from eq_false (by decide), if_true, if_false, J_lit]
  exact De.ret _ _
theorem ob_say_ok {v1 v2 v3 v4 v5 v6 v7 : Int32} (hs : Sk S) (hc : De (fun n => f_X10_say n 0 [.ref 0, .int v1, .int v2, .int v3, .int v4, .int v5, .int v6, .int v7] (hp S m q)) (.inl (some (.int v))) (hp S m1 q1)) (hm : De (fun n => f_X11_say n 0 [.ref 136, .int v1, .int v2, .int v3, .int v4, .int v5, .int v6, .int v7] (hp S m1 (uq q1 152 0 (Int32.toInt64 v)))) (.inl (some (.int v))) (hp S m2 (uq q1 152 0 (Int32.toInt64 v)))) (ht : m2 136 0 = 0) (hI : I (hp S m2 (uq q1 152 0 (Int32.toInt64 v)))) : oB 0 136 152 f_L_say f_X11_say [.int v1, .int v2, .int v3, .int v4, .int v5, .int v6, .int v7] (hp S m q) I := by
  refine ⟨J 0, v, _, _, ?_, x136_k hs, hm, x136_k hs, De.eq 1 (fun n => by rw [e_thrown hs, ht]), fun _ => aJ_out hs, hI⟩
  show De (fun n => f_L_say n 0 [.ref 0, .int v1, .int v2, .int v3, .int v4, .int v5, .int v6, .int v7, .ref 152] (hp S m q)) _ _
  refine De.step ?_
  simp only [j_L_say_0, b_L_say_0, x0_k hs, Option.bind_some]
  refine De.call hc ?_
  simp only [xIh]
  simp (disch := omega) only [J_lit, x152_s hs, Option.bind_some]
  exact De.ret _ _
theorem ob_say_t0 {v1 v2 v3 v4 v5 v6 v7 : Int32} (hs : Sk S) (hr : 153 ≤ S.1) (hc : De (fun n => f_X10_say n 0 [.ref 0, .int v1, .int v2, .int v3, .int v4, .int v5, .int v6, .int v7] (hp S m q)) (.inr S.1) (hp (xth S 0) m1 q1)) (hm : De (fun n => f_X11_say n 0 [.ref 136, .int v1, .int v2, .int v3, .int v4, .int v5, .int v6, .int v7] (hp (xth S 0) m1 q1)) (.inl (some (.int b))) (hp (xth S 0) m2 q1)) (ht : m2 136 0 = 1) (hI : I (hp (xth S 0) m2 q1)) : oB 0 136 152 f_L_say f_X11_say [.int v1, .int v2, .int v3, .int v4, .int v5, .int v6, .int v7] (hp S m q) I := by
  have hs2 : Sk (xth S 0) := hs.grow (Grow.th S 0) hr
  refine ⟨J 1, b, _, _, ?_, x136_k hs2, hm, x136_k hs2, De.eq 1 (fun n => by rw [e_thrown hs2, ht]), fun z => absurd z (by decide), hI⟩
  show De (fun n => f_L_say n 0 [.ref 0, .int v1, .int v2, .int v3, .int v4, .int v5, .int v6, .int v7, .ref 152] (hp S m q)) _ _
  refine De.step ?_
  simp only [j_L_say_0, b_L_say_0, x0_k hs, Option.bind_some]
  refine De.call hc ?_
  simp only [xIh]
  simp only [xcat_hp S _ _ (show 0 < 5 by decide), Option.bind_some, if_true, if_false, J_lit]
  exact De.ret _ _
theorem ob_say_t1 {v1 v2 v3 v4 v5 v6 v7 : Int32} (hs : Sk S) (hr : 153 ≤ S.1) (hc : De (fun n => f_X10_say n 0 [.ref 0, .int v1, .int v2, .int v3, .int v4, .int v5, .int v6, .int v7] (hp S m q)) (.inr S.1) (hp (xth S 1) m1 q1)) (hm : De (fun n => f_X11_say n 0 [.ref 136, .int v1, .int v2, .int v3, .int v4, .int v5, .int v6, .int v7] (hp (xth S 1) m1 q1)) (.inl (some (.int b))) (hp (xth S 1) m2 q1)) (ht : m2 136 0 = 2) (hI : I (hp (xth S 1) m2 q1)) : oB 0 136 152 f_L_say f_X11_say [.int v1, .int v2, .int v3, .int v4, .int v5, .int v6, .int v7] (hp S m q) I := by
  have hs2 : Sk (xth S 1) := hs.grow (Grow.th S 1) hr
  refine ⟨J 2, b, _, _, ?_, x136_k hs2, hm, x136_k hs2, De.eq 1 (fun n => by rw [e_thrown hs2, ht]), fun z => absurd z (by decide), hI⟩
  show De (fun n => f_L_say n 0 [.ref 0, .int v1, .int v2, .int v3, .int v4, .int v5, .int v6, .int v7, .ref 152] (hp S m q)) _ _
  refine De.step ?_
  simp only [j_L_say_0, b_L_say_0, x0_k hs, Option.bind_some]
  refine De.call hc ?_
  simp only [xIh]
  simp only [xcat_hp S _ _ (show 1 < 5 by decide), Option.bind_some, show ((1 : Nat) = 0) = False from eq_false (by decide), if_true, if_false, J_lit]
  exact De.ret _ _
theorem ob_say_t2 {v1 v2 v3 v4 v5 v6 v7 : Int32} (hs : Sk S) (hr : 153 ≤ S.1) (hc : De (fun n => f_X10_say n 0 [.ref 0, .int v1, .int v2, .int v3, .int v4, .int v5, .int v6, .int v7] (hp S m q)) (.inr S.1) (hp (xth S 2) m1 q1)) (hm : De (fun n => f_X11_say n 0 [.ref 136, .int v1, .int v2, .int v3, .int v4, .int v5, .int v6, .int v7] (hp (xth S 2) m1 q1)) (.inl (some (.int b))) (hp (xth S 2) m2 q1)) (ht : m2 136 0 = 3) (hI : I (hp (xth S 2) m2 q1)) : oB 0 136 152 f_L_say f_X11_say [.int v1, .int v2, .int v3, .int v4, .int v5, .int v6, .int v7] (hp S m q) I := by
  have hs2 : Sk (xth S 2) := hs.grow (Grow.th S 2) hr
  refine ⟨J 3, b, _, _, ?_, x136_k hs2, hm, x136_k hs2, De.eq 1 (fun n => by rw [e_thrown hs2, ht]), fun z => absurd z (by decide), hI⟩
  show De (fun n => f_L_say n 0 [.ref 0, .int v1, .int v2, .int v3, .int v4, .int v5, .int v6, .int v7, .ref 152] (hp S m q)) _ _
  refine De.step ?_
  simp only [j_L_say_0, b_L_say_0, x0_k hs, Option.bind_some]
  refine De.call hc ?_
  simp only [xIh]
  simp only [xcat_hp S _ _ (show 2 < 5 by decide), Option.bind_some, show ((2 : Nat) = 0) = False from eq_false (by decide), show ((2 : Nat) = 1) = False from eq_false (by decide), if_true, if_false, J_lit]
  exact De.ret _ _
theorem ob_undo_ok {v1 v2 v3 : Int32} (hs : Sk S) (hc : De (fun n => f_X10_undo n 0 [.ref 0, .int v1, .int v2, .int v3] (hp S m q)) (.inl (some (.int v))) (hp S m1 q1)) (hm : De (fun n => f_X11_undo n 0 [.ref 136, .int v1, .int v2, .int v3] (hp S m1 (uq q1 152 0 (Int32.toInt64 v)))) (.inl (some (.int v))) (hp S m2 (uq q1 152 0 (Int32.toInt64 v)))) (ht : m2 136 0 = 0) (hI : I (hp S m2 (uq q1 152 0 (Int32.toInt64 v)))) : oB 0 136 152 f_L_undo f_X11_undo [.int v1, .int v2, .int v3] (hp S m q) I := by
  refine ⟨J 0, v, _, _, ?_, x136_k hs, hm, x136_k hs, De.eq 1 (fun n => by rw [e_thrown hs, ht]), fun _ => aJ_out hs, hI⟩
  show De (fun n => f_L_undo n 0 [.ref 0, .int v1, .int v2, .int v3, .ref 152] (hp S m q)) _ _
  refine De.step ?_
  simp only [j_L_undo_0, b_L_undo_0, x0_k hs, Option.bind_some]
  refine De.call hc ?_
  simp only [xIh]
  simp (disch := omega) only [J_lit, x152_s hs, Option.bind_some]
  exact De.ret _ _
theorem ob_undo_t0 {v1 v2 v3 : Int32} (hs : Sk S) (hr : 153 ≤ S.1) (hc : De (fun n => f_X10_undo n 0 [.ref 0, .int v1, .int v2, .int v3] (hp S m q)) (.inr S.1) (hp (xth S 0) m1 q1)) (hm : De (fun n => f_X11_undo n 0 [.ref 136, .int v1, .int v2, .int v3] (hp (xth S 0) m1 q1)) (.inl (some (.int b))) (hp (xth S 0) m2 q1)) (ht : m2 136 0 = 1) (hI : I (hp (xth S 0) m2 q1)) : oB 0 136 152 f_L_undo f_X11_undo [.int v1, .int v2, .int v3] (hp S m q) I := by
  have hs2 : Sk (xth S 0) := hs.grow (Grow.th S 0) hr
  refine ⟨J 1, b, _, _, ?_, x136_k hs2, hm, x136_k hs2, De.eq 1 (fun n => by rw [e_thrown hs2, ht]), fun z => absurd z (by decide), hI⟩
  show De (fun n => f_L_undo n 0 [.ref 0, .int v1, .int v2, .int v3, .ref 152] (hp S m q)) _ _
  refine De.step ?_
  simp only [j_L_undo_0, b_L_undo_0, x0_k hs, Option.bind_some]
  refine De.call hc ?_
  simp only [xIh]
  simp only [xcat_hp S _ _ (show 0 < 5 by decide), Option.bind_some, if_true, if_false, J_lit]
  exact De.ret _ _
theorem ob_undo_t1 {v1 v2 v3 : Int32} (hs : Sk S) (hr : 153 ≤ S.1) (hc : De (fun n => f_X10_undo n 0 [.ref 0, .int v1, .int v2, .int v3] (hp S m q)) (.inr S.1) (hp (xth S 1) m1 q1)) (hm : De (fun n => f_X11_undo n 0 [.ref 136, .int v1, .int v2, .int v3] (hp (xth S 1) m1 q1)) (.inl (some (.int b))) (hp (xth S 1) m2 q1)) (ht : m2 136 0 = 2) (hI : I (hp (xth S 1) m2 q1)) : oB 0 136 152 f_L_undo f_X11_undo [.int v1, .int v2, .int v3] (hp S m q) I := by
  have hs2 : Sk (xth S 1) := hs.grow (Grow.th S 1) hr
  refine ⟨J 2, b, _, _, ?_, x136_k hs2, hm, x136_k hs2, De.eq 1 (fun n => by rw [e_thrown hs2, ht]), fun z => absurd z (by decide), hI⟩
  show De (fun n => f_L_undo n 0 [.ref 0, .int v1, .int v2, .int v3, .ref 152] (hp S m q)) _ _
  refine De.step ?_
  simp only [j_L_undo_0, b_L_undo_0, x0_k hs, Option.bind_some]
  refine De.call hc ?_
  simp only [xIh]
  simp only [xcat_hp S _ _ (show 1 < 5 by decide), Option.bind_some, show ((1 : Nat) = 0) = False from eq_false (by decide), if_true, if_false, J_lit]
  exact De.ret _ _
theorem ob_undo_t2 {v1 v2 v3 : Int32} (hs : Sk S) (hr : 153 ≤ S.1) (hc : De (fun n => f_X10_undo n 0 [.ref 0, .int v1, .int v2, .int v3] (hp S m q)) (.inr S.1) (hp (xth S 2) m1 q1)) (hm : De (fun n => f_X11_undo n 0 [.ref 136, .int v1, .int v2, .int v3] (hp (xth S 2) m1 q1)) (.inl (some (.int b))) (hp (xth S 2) m2 q1)) (ht : m2 136 0 = 3) (hI : I (hp (xth S 2) m2 q1)) : oB 0 136 152 f_L_undo f_X11_undo [.int v1, .int v2, .int v3] (hp S m q) I := by
  have hs2 : Sk (xth S 2) := hs.grow (Grow.th S 2) hr
  refine ⟨J 3, b, _, _, ?_, x136_k hs2, hm, x136_k hs2, De.eq 1 (fun n => by rw [e_thrown hs2, ht]), fun z => absurd z (by decide), hI⟩
  show De (fun n => f_L_undo n 0 [.ref 0, .int v1, .int v2, .int v3, .ref 152] (hp S m q)) _ _
  refine De.step ?_
  simp only [j_L_undo_0, b_L_undo_0, x0_k hs, Option.bind_some]
  refine De.call hc ?_
  simp only [xIh]
  simp only [xcat_hp S _ _ (show 2 < 5 by decide), Option.bind_some, show ((2 : Nat) = 0) = False from eq_false (by decide), show ((2 : Nat) = 1) = False from eq_false (by decide), if_true, if_false, J_lit]
  exact De.ret _ _
theorem ob_ticks_ok {v1 : Int32} (hs : Sk S) (hc : De (fun n => f_X10_ticks n 0 [.ref 0, .int v1] (hp S m q)) (.inl (some (.int v))) (hp S m1 q1)) (hm : De (fun n => f_X11_ticks n 0 [.ref 136, .int v1] (hp S m1 (uq q1 152 0 (Int32.toInt64 v)))) (.inl (some (.int v))) (hp S m2 (uq q1 152 0 (Int32.toInt64 v)))) (ht : m2 136 0 = 0) (hI : I (hp S m2 (uq q1 152 0 (Int32.toInt64 v)))) : oB 0 136 152 f_L_ticks f_X11_ticks [.int v1] (hp S m q) I := by
  refine ⟨J 0, v, _, _, ?_, x136_k hs, hm, x136_k hs, De.eq 1 (fun n => by rw [e_thrown hs, ht]), fun _ => aJ_out hs, hI⟩
  show De (fun n => f_L_ticks n 0 [.ref 0, .int v1, .ref 152] (hp S m q)) _ _
  refine De.step ?_
  simp only [j_L_ticks_0, b_L_ticks_0, x0_k hs, Option.bind_some]
  refine De.call hc ?_
  simp only [xIh]
  simp (disch := omega) only [J_lit, x152_s hs, Option.bind_some]
  exact De.ret _ _
theorem ob_ticks_t1 {v1 : Int32} (hs : Sk S) (hr : 153 ≤ S.1) (hc : De (fun n => f_X10_ticks n 0 [.ref 0, .int v1] (hp S m q)) (.inr S.1) (hp (xth S 1) m1 q1)) (hm : De (fun n => f_X11_ticks n 0 [.ref 136, .int v1] (hp (xth S 1) m1 q1)) (.inl (some (.int b))) (hp (xth S 1) m2 q1)) (ht : m2 136 0 = 1) (hI : I (hp (xth S 1) m2 q1)) : oB 0 136 152 f_L_ticks f_X11_ticks [.int v1] (hp S m q) I := by
  have hs2 : Sk (xth S 1) := hs.grow (Grow.th S 1) hr
  refine ⟨J 1, b, _, _, ?_, x136_k hs2, hm, x136_k hs2, De.eq 1 (fun n => by rw [e_thrown hs2, ht]), fun z => absurd z (by decide), hI⟩
  show De (fun n => f_L_ticks n 0 [.ref 0, .int v1, .ref 152] (hp S m q)) _ _
  refine De.step ?_
  simp only [j_L_ticks_0, b_L_ticks_0, x0_k hs, Option.bind_some]
  refine De.call hc ?_
  simp only [xIh]
  simp only [xcat_hp S _ _ (show 1 < 5 by decide), Option.bind_some, if_true, if_false, J_lit]
  exact De.ret _ _
theorem ob_look_ok {v1 v2 : Int32} (hs : Sk S) (hc : De (fun n => f_X10_look n 0 [.ref 0, .int v1, .int v2] (hp S m q)) (.inl (some (.int v))) (hp S m1 q1)) (hm : De (fun n => f_X11_look n 0 [.ref 136, .int v1, .int v2] (hp S m1 (uq q1 152 0 (Int32.toInt64 v)))) (.inl (some (.int v))) (hp S m2 (uq q1 152 0 (Int32.toInt64 v)))) (ht : m2 136 0 = 0) (hI : I (hp S m2 (uq q1 152 0 (Int32.toInt64 v)))) : oB 0 136 152 f_L_look f_X11_look [.int v1, .int v2] (hp S m q) I := by
  refine ⟨J 0, v, _, _, ?_, x136_k hs, hm, x136_k hs, De.eq 1 (fun n => by rw [e_thrown hs, ht]), fun _ => aJ_out hs, hI⟩
  show De (fun n => f_L_look n 0 [.ref 0, .int v1, .int v2, .ref 152] (hp S m q)) _ _
  refine De.step ?_
  simp only [j_L_look_0, b_L_look_0, x0_k hs, Option.bind_some]
  refine De.call hc ?_
  simp only [xIh]
  simp (disch := omega) only [J_lit, x152_s hs, Option.bind_some]
  exact De.ret _ _
theorem ob_look_t0 {v1 v2 : Int32} (hs : Sk S) (hr : 153 ≤ S.1) (hc : De (fun n => f_X10_look n 0 [.ref 0, .int v1, .int v2] (hp S m q)) (.inr S.1) (hp (xth S 0) m1 q1)) (hm : De (fun n => f_X11_look n 0 [.ref 136, .int v1, .int v2] (hp (xth S 0) m1 q1)) (.inl (some (.int b))) (hp (xth S 0) m2 q1)) (ht : m2 136 0 = 1) (hI : I (hp (xth S 0) m2 q1)) : oB 0 136 152 f_L_look f_X11_look [.int v1, .int v2] (hp S m q) I := by
  have hs2 : Sk (xth S 0) := hs.grow (Grow.th S 0) hr
  refine ⟨J 1, b, _, _, ?_, x136_k hs2, hm, x136_k hs2, De.eq 1 (fun n => by rw [e_thrown hs2, ht]), fun z => absurd z (by decide), hI⟩
  show De (fun n => f_L_look n 0 [.ref 0, .int v1, .int v2, .ref 152] (hp S m q)) _ _
  refine De.step ?_
  simp only [j_L_look_0, b_L_look_0, x0_k hs, Option.bind_some]
  refine De.call hc ?_
  simp only [xIh]
  simp only [xcat_hp S _ _ (show 0 < 5 by decide), Option.bind_some, if_true, if_false, J_lit]
  exact De.ret _ _
theorem ob_look_t4 {v1 v2 : Int32} (hs : Sk S) (hr : 153 ≤ S.1) (hc : De (fun n => f_X10_look n 0 [.ref 0, .int v1, .int v2] (hp S m q)) (.inr S.1) (hp (xth S 4) m1 q1)) (hm : De (fun n => f_X11_look n 0 [.ref 136, .int v1, .int v2] (hp (xth S 4) m1 q1)) (.inl (some (.int b))) (hp (xth S 4) m2 q1)) (ht : m2 136 0 = 2) (hI : I (hp (xth S 4) m2 q1)) : oB 0 136 152 f_L_look f_X11_look [.int v1, .int v2] (hp S m q) I := by
  have hs2 : Sk (xth S 4) := hs.grow (Grow.th S 4) hr
  refine ⟨J 2, b, _, _, ?_, x136_k hs2, hm, x136_k hs2, De.eq 1 (fun n => by rw [e_thrown hs2, ht]), fun z => absurd z (by decide), hI⟩
  show De (fun n => f_L_look n 0 [.ref 0, .int v1, .int v2, .ref 152] (hp S m q)) _ _
  refine De.step ?_
  simp only [j_L_look_0, b_L_look_0, x0_k hs, Option.bind_some]
  refine De.call hc ?_
  simp only [xIh]
  simp only [xcat_hp S _ _ (show 4 < 5 by decide), Option.bind_some, show ((4 : Nat) = 0) = False from eq_false (by decide), if_true, if_false, J_lit]
  exact De.ret _ _
theorem ob_copy_ok {v1 v2 v3 : Int32} (hs : Sk S) (hc : De (fun n => f_X10_copy n 0 [.ref 0, .int v1, .int v2, .int v3] (hp S m q)) (.inl (some (.int v))) (hp S m1 q1)) (hm : De (fun n => f_X11_copy n 0 [.ref 136, .int v1, .int v2, .int v3] (hp S m1 (uq q1 152 0 (Int32.toInt64 v)))) (.inl (some (.int v))) (hp S m2 (uq q1 152 0 (Int32.toInt64 v)))) (ht : m2 136 0 = 0) (hI : I (hp S m2 (uq q1 152 0 (Int32.toInt64 v)))) : oB 0 136 152 f_L_copy f_X11_copy [.int v1, .int v2, .int v3] (hp S m q) I := by
  refine ⟨J 0, v, _, _, ?_, x136_k hs, hm, x136_k hs, De.eq 1 (fun n => by rw [e_thrown hs, ht]), fun _ => aJ_out hs, hI⟩
  show De (fun n => f_L_copy n 0 [.ref 0, .int v1, .int v2, .int v3, .ref 152] (hp S m q)) _ _
  refine De.step ?_
  simp only [j_L_copy_0, b_L_copy_0, x0_k hs, Option.bind_some]
  refine De.call hc ?_
  simp only [xIh]
  simp (disch := omega) only [J_lit, x152_s hs, Option.bind_some]
  exact De.ret _ _
theorem ob_copy_t0 {v1 v2 v3 : Int32} (hs : Sk S) (hr : 153 ≤ S.1) (hc : De (fun n => f_X10_copy n 0 [.ref 0, .int v1, .int v2, .int v3] (hp S m q)) (.inr S.1) (hp (xth S 0) m1 q1)) (hm : De (fun n => f_X11_copy n 0 [.ref 136, .int v1, .int v2, .int v3] (hp (xth S 0) m1 q1)) (.inl (some (.int b))) (hp (xth S 0) m2 q1)) (ht : m2 136 0 = 1) (hI : I (hp (xth S 0) m2 q1)) : oB 0 136 152 f_L_copy f_X11_copy [.int v1, .int v2, .int v3] (hp S m q) I := by
  have hs2 : Sk (xth S 0) := hs.grow (Grow.th S 0) hr
  refine ⟨J 1, b, _, _, ?_, x136_k hs2, hm, x136_k hs2, De.eq 1 (fun n => by rw [e_thrown hs2, ht]), fun z => absurd z (by decide), hI⟩
  show De (fun n => f_L_copy n 0 [.ref 0, .int v1, .int v2, .int v3, .ref 152] (hp S m q)) _ _
  refine De.step ?_
  simp only [j_L_copy_0, b_L_copy_0, x0_k hs, Option.bind_some]
  refine De.call hc ?_
  simp only [xIh]
  simp only [xcat_hp S _ _ (show 0 < 5 by decide), Option.bind_some, if_true, if_false, J_lit]
  exact De.ret _ _
theorem ob_copy_t4 {v1 v2 v3 : Int32} (hs : Sk S) (hr : 153 ≤ S.1) (hc : De (fun n => f_X10_copy n 0 [.ref 0, .int v1, .int v2, .int v3] (hp S m q)) (.inr S.1) (hp (xth S 4) m1 q1)) (hm : De (fun n => f_X11_copy n 0 [.ref 136, .int v1, .int v2, .int v3] (hp (xth S 4) m1 q1)) (.inl (some (.int b))) (hp (xth S 4) m2 q1)) (ht : m2 136 0 = 2) (hI : I (hp (xth S 4) m2 q1)) : oB 0 136 152 f_L_copy f_X11_copy [.int v1, .int v2, .int v3] (hp S m q) I := by
  have hs2 : Sk (xth S 4) := hs.grow (Grow.th S 4) hr
  refine ⟨J 2, b, _, _, ?_, x136_k hs2, hm, x136_k hs2, De.eq 1 (fun n => by rw [e_thrown hs2, ht]), fun z => absurd z (by decide), hI⟩
  show De (fun n => f_L_copy n 0 [.ref 0, .int v1, .int v2, .int v3, .ref 152] (hp S m q)) _ _
  refine De.step ?_
  simp only [j_L_copy_0, b_L_copy_0, x0_k hs, Option.bind_some]
  refine De.call hc ?_
  simp only [xIh]
  simp only [xcat_hp S _ _ (show 4 < 5 by decide), Option.bind_some, show ((4 : Nat) = 0) = False from eq_false (by decide), if_true, if_false, J_lit]
  exact De.ret _ _
theorem ob_word_ok {v1 v2 : Int32} (hs : Sk S) (hc : De (fun n => f_X10_word n 0 [.ref 0, .int v1, .int v2] (hp S m q)) (.inl (some (.int v))) (hp S m1 q1)) (hm : De (fun n => f_X11_word n 0 [.ref 136, .int v1, .int v2] (hp S m1 (uq q1 152 0 (Int32.toInt64 v)))) (.inl (some (.int v))) (hp S m2 (uq q1 152 0 (Int32.toInt64 v)))) (ht : m2 136 0 = 0) (hI : I (hp S m2 (uq q1 152 0 (Int32.toInt64 v)))) : oB 0 136 152 f_L_word f_X11_word [.int v1, .int v2] (hp S m q) I := by
  refine ⟨J 0, v, _, _, ?_, x136_k hs, hm, x136_k hs, De.eq 1 (fun n => by rw [e_thrown hs, ht]), fun _ => aJ_out hs, hI⟩
  show De (fun n => f_L_word n 0 [.ref 0, .int v1, .int v2, .ref 152] (hp S m q)) _ _
  refine De.step ?_
  simp only [j_L_word_0, b_L_word_0, x0_k hs, Option.bind_some]
  refine De.call hc ?_
  simp only [xIh]
  simp (disch := omega) only [J_lit, x152_s hs, Option.bind_some]
  exact De.ret _ _
theorem ob_word_t0 {v1 v2 : Int32} (hs : Sk S) (hr : 153 ≤ S.1) (hc : De (fun n => f_X10_word n 0 [.ref 0, .int v1, .int v2] (hp S m q)) (.inr S.1) (hp (xth S 0) m1 q1)) (hm : De (fun n => f_X11_word n 0 [.ref 136, .int v1, .int v2] (hp (xth S 0) m1 q1)) (.inl (some (.int b))) (hp (xth S 0) m2 q1)) (ht : m2 136 0 = 1) (hI : I (hp (xth S 0) m2 q1)) : oB 0 136 152 f_L_word f_X11_word [.int v1, .int v2] (hp S m q) I := by
  have hs2 : Sk (xth S 0) := hs.grow (Grow.th S 0) hr
  refine ⟨J 1, b, _, _, ?_, x136_k hs2, hm, x136_k hs2, De.eq 1 (fun n => by rw [e_thrown hs2, ht]), fun z => absurd z (by decide), hI⟩
  show De (fun n => f_L_word n 0 [.ref 0, .int v1, .int v2, .ref 152] (hp S m q)) _ _
  refine De.step ?_
  simp only [j_L_word_0, b_L_word_0, x0_k hs, Option.bind_some]
  refine De.call hc ?_
  simp only [xIh]
  simp only [xcat_hp S _ _ (show 0 < 5 by decide), Option.bind_some, if_true, if_false, J_lit]
  exact De.ret _ _
theorem ob_word_t4 {v1 v2 : Int32} (hs : Sk S) (hr : 153 ≤ S.1) (hc : De (fun n => f_X10_word n 0 [.ref 0, .int v1, .int v2] (hp S m q)) (.inr S.1) (hp (xth S 4) m1 q1)) (hm : De (fun n => f_X11_word n 0 [.ref 136, .int v1, .int v2] (hp (xth S 4) m1 q1)) (.inl (some (.int b))) (hp (xth S 4) m2 q1)) (ht : m2 136 0 = 2) (hI : I (hp (xth S 4) m2 q1)) : oB 0 136 152 f_L_word f_X11_word [.int v1, .int v2] (hp S m q) I := by
  have hs2 : Sk (xth S 4) := hs.grow (Grow.th S 4) hr
  refine ⟨J 2, b, _, _, ?_, x136_k hs2, hm, x136_k hs2, De.eq 1 (fun n => by rw [e_thrown hs2, ht]), fun z => absurd z (by decide), hI⟩
  show De (fun n => f_L_word n 0 [.ref 0, .int v1, .int v2, .ref 152] (hp S m q)) _ _
  refine De.step ?_
  simp only [j_L_word_0, b_L_word_0, x0_k hs, Option.bind_some]
  refine De.call hc ?_
  simp only [xIh]
  simp only [xcat_hp S _ _ (show 4 < 5 by decide), Option.bind_some, show ((4 : Nat) = 0) = False from eq_false (by decide), if_true, if_false, J_lit]
  exact De.ret _ _
theorem ob_had_ok {v1 : Int32} (hs : Sk S) (hc : De (fun n => f_X10_had n 0 [.ref 0, .int v1] (hp S m q)) (.inl (some (.int v))) (hp S m1 q1)) (hm : De (fun n => f_X11_had n 0 [.ref 136, .int v1] (hp S m1 (uq q1 152 0 (Int32.toInt64 v)))) (.inl (some (.int v))) (hp S m2 (uq q1 152 0 (Int32.toInt64 v)))) (ht : m2 136 0 = 0) (hI : I (hp S m2 (uq q1 152 0 (Int32.toInt64 v)))) : oB 0 136 152 f_L_had f_X11_had [.int v1] (hp S m q) I := by
  refine ⟨J 0, v, _, _, ?_, x136_k hs, hm, x136_k hs, De.eq 1 (fun n => by rw [e_thrown hs, ht]), fun _ => aJ_out hs, hI⟩
  show De (fun n => f_L_had n 0 [.ref 0, .int v1, .ref 152] (hp S m q)) _ _
  refine De.step ?_
  simp only [j_L_had_0, b_L_had_0, x0_k hs, Option.bind_some]
  refine De.call hc ?_
  simp only [xIh]
  simp (disch := omega) only [J_lit, x152_s hs, Option.bind_some]
  exact De.ret _ _
theorem ob_had_t0 {v1 : Int32} (hs : Sk S) (hr : 153 ≤ S.1) (hc : De (fun n => f_X10_had n 0 [.ref 0, .int v1] (hp S m q)) (.inr S.1) (hp (xth S 0) m1 q1)) (hm : De (fun n => f_X11_had n 0 [.ref 136, .int v1] (hp (xth S 0) m1 q1)) (.inl (some (.int b))) (hp (xth S 0) m2 q1)) (ht : m2 136 0 = 1) (hI : I (hp (xth S 0) m2 q1)) : oB 0 136 152 f_L_had f_X11_had [.int v1] (hp S m q) I := by
  have hs2 : Sk (xth S 0) := hs.grow (Grow.th S 0) hr
  refine ⟨J 1, b, _, _, ?_, x136_k hs2, hm, x136_k hs2, De.eq 1 (fun n => by rw [e_thrown hs2, ht]), fun z => absurd z (by decide), hI⟩
  show De (fun n => f_L_had n 0 [.ref 0, .int v1, .ref 152] (hp S m q)) _ _
  refine De.step ?_
  simp only [j_L_had_0, b_L_had_0, x0_k hs, Option.bind_some]
  refine De.call hc ?_
  simp only [xIh]
  simp only [xcat_hp S _ _ (show 0 < 5 by decide), Option.bind_some, if_true, if_false, J_lit]
  exact De.ret _ _
theorem ob_way_ok {v1 v2 : Int32} (hs : Sk S) (hc : De (fun n => f_X10_way n 0 [.ref 0, .int v1, .int v2] (hp S m q)) (.inl (some (.int v))) (hp S m1 q1)) (hm : De (fun n => f_X11_way n 0 [.ref 136, .int v1, .int v2] (hp S m1 (uq q1 152 0 (Int32.toInt64 v)))) (.inl (some (.int v))) (hp S m2 (uq q1 152 0 (Int32.toInt64 v)))) (ht : m2 136 0 = 0) (hI : I (hp S m2 (uq q1 152 0 (Int32.toInt64 v)))) : oB 0 136 152 f_L_way f_X11_way [.int v1, .int v2] (hp S m q) I := by
  refine ⟨J 0, v, _, _, ?_, x136_k hs, hm, x136_k hs, De.eq 1 (fun n => by rw [e_thrown hs, ht]), fun _ => aJ_out hs, hI⟩
  show De (fun n => f_L_way n 0 [.ref 0, .int v1, .int v2, .ref 152] (hp S m q)) _ _
  refine De.step ?_
  simp only [j_L_way_0, b_L_way_0, x0_k hs, Option.bind_some]
  refine De.call hc ?_
  simp only [xIh]
  simp (disch := omega) only [J_lit, x152_s hs, Option.bind_some]
  exact De.ret _ _
theorem ob_way_t0 {v1 v2 : Int32} (hs : Sk S) (hr : 153 ≤ S.1) (hc : De (fun n => f_X10_way n 0 [.ref 0, .int v1, .int v2] (hp S m q)) (.inr S.1) (hp (xth S 0) m1 q1)) (hm : De (fun n => f_X11_way n 0 [.ref 136, .int v1, .int v2] (hp (xth S 0) m1 q1)) (.inl (some (.int b))) (hp (xth S 0) m2 q1)) (ht : m2 136 0 = 1) (hI : I (hp (xth S 0) m2 q1)) : oB 0 136 152 f_L_way f_X11_way [.int v1, .int v2] (hp S m q) I := by
  have hs2 : Sk (xth S 0) := hs.grow (Grow.th S 0) hr
  refine ⟨J 1, b, _, _, ?_, x136_k hs2, hm, x136_k hs2, De.eq 1 (fun n => by rw [e_thrown hs2, ht]), fun z => absurd z (by decide), hI⟩
  show De (fun n => f_L_way n 0 [.ref 0, .int v1, .int v2, .ref 152] (hp S m q)) _ _
  refine De.step ?_
  simp only [j_L_way_0, b_L_way_0, x0_k hs, Option.bind_some]
  refine De.call hc ?_
  simp only [xIh]
  simp only [xcat_hp S _ _ (show 0 < 5 by decide), Option.bind_some, if_true, if_false, J_lit]
  exact De.ret _ _
theorem ob_late_ok {v1 : Int32} (hs : Sk S) (hc : De (fun n => f_X10_late n 0 [.ref 0, .int v1] (hp S m q)) (.inl (some (.int v))) (hp S m1 q1)) (hm : De (fun n => f_X11_late n 0 [.ref 136, .int v1] (hp S m1 (uq q1 152 0 (Int32.toInt64 v)))) (.inl (some (.int v))) (hp S m2 (uq q1 152 0 (Int32.toInt64 v)))) (ht : m2 136 0 = 0) (hI : I (hp S m2 (uq q1 152 0 (Int32.toInt64 v)))) : oB 0 136 152 f_L_late f_X11_late [.int v1] (hp S m q) I := by
  refine ⟨J 0, v, _, _, ?_, x136_k hs, hm, x136_k hs, De.eq 1 (fun n => by rw [e_thrown hs, ht]), fun _ => aJ_out hs, hI⟩
  show De (fun n => f_L_late n 0 [.ref 0, .int v1, .ref 152] (hp S m q)) _ _
  refine De.step ?_
  simp only [j_L_late_0, b_L_late_0, x0_k hs, Option.bind_some]
  refine De.call hc ?_
  simp only [xIh]
  simp (disch := omega) only [J_lit, x152_s hs, Option.bind_some]
  exact De.ret _ _
theorem ob_late_t0 {v1 : Int32} (hs : Sk S) (hr : 153 ≤ S.1) (hc : De (fun n => f_X10_late n 0 [.ref 0, .int v1] (hp S m q)) (.inr S.1) (hp (xth S 0) m1 q1)) (hm : De (fun n => f_X11_late n 0 [.ref 136, .int v1] (hp (xth S 0) m1 q1)) (.inl (some (.int b))) (hp (xth S 0) m2 q1)) (ht : m2 136 0 = 1) (hI : I (hp (xth S 0) m2 q1)) : oB 0 136 152 f_L_late f_X11_late [.int v1] (hp S m q) I := by
  have hs2 : Sk (xth S 0) := hs.grow (Grow.th S 0) hr
  refine ⟨J 1, b, _, _, ?_, x136_k hs2, hm, x136_k hs2, De.eq 1 (fun n => by rw [e_thrown hs2, ht]), fun z => absurd z (by decide), hI⟩
  show De (fun n => f_L_late n 0 [.ref 0, .int v1, .ref 152] (hp S m q)) _ _
  refine De.step ?_
  simp only [j_L_late_0, b_L_late_0, x0_k hs, Option.bind_some]
  refine De.call hc ?_
  simp only [xIh]
  simp only [xcat_hp S _ _ (show 0 < 5 by decide), Option.bind_some, if_true, if_false, J_lit]
  exact De.ret _ _
theorem ob_rumour_ok {v1 : Int32} (hs : Sk S) (hc : De (fun n => f_X10_rumour n 0 [.ref 0, .int v1] (hp S m q)) (.inl (some (.int v))) (hp S m1 q1)) (hm : De (fun n => f_X11_rumour n 0 [.ref 136, .int v1] (hp S m1 (uq q1 152 0 (Int32.toInt64 v)))) (.inl (some (.int v))) (hp S m2 (uq q1 152 0 (Int32.toInt64 v)))) (ht : m2 136 0 = 0) (hI : I (hp S m2 (uq q1 152 0 (Int32.toInt64 v)))) : oB 0 136 152 f_L_rumour f_X11_rumour [.int v1] (hp S m q) I := by
  refine ⟨J 0, v, _, _, ?_, x136_k hs, hm, x136_k hs, De.eq 1 (fun n => by rw [e_thrown hs, ht]), fun _ => aJ_out hs, hI⟩
  show De (fun n => f_L_rumour n 0 [.ref 0, .int v1, .ref 152] (hp S m q)) _ _
  refine De.step ?_
  simp only [j_L_rumour_0, b_L_rumour_0, x0_k hs, Option.bind_some]
  refine De.call hc ?_
  simp only [xIh]
  simp (disch := omega) only [J_lit, x152_s hs, Option.bind_some]
  exact De.ret _ _
theorem ob_rumour_t0 {v1 : Int32} (hs : Sk S) (hr : 153 ≤ S.1) (hc : De (fun n => f_X10_rumour n 0 [.ref 0, .int v1] (hp S m q)) (.inr S.1) (hp (xth S 0) m1 q1)) (hm : De (fun n => f_X11_rumour n 0 [.ref 136, .int v1] (hp (xth S 0) m1 q1)) (.inl (some (.int b))) (hp (xth S 0) m2 q1)) (ht : m2 136 0 = 1) (hI : I (hp (xth S 0) m2 q1)) : oB 0 136 152 f_L_rumour f_X11_rumour [.int v1] (hp S m q) I := by
  have hs2 : Sk (xth S 0) := hs.grow (Grow.th S 0) hr
  refine ⟨J 1, b, _, _, ?_, x136_k hs2, hm, x136_k hs2, De.eq 1 (fun n => by rw [e_thrown hs2, ht]), fun z => absurd z (by decide), hI⟩
  show De (fun n => f_L_rumour n 0 [.ref 0, .int v1, .ref 152] (hp S m q)) _ _
  refine De.step ?_
  simp only [j_L_rumour_0, b_L_rumour_0, x0_k hs, Option.bind_some]
  refine De.call hc ?_
  simp only [xIh]
  simp only [xcat_hp S _ _ (show 0 < 5 by decide), Option.bind_some, if_true, if_false, J_lit]
  exact De.ret _ _
theorem ob_sayings_ok {v1 v2 v3 : Int32} (hs : Sk S) (hc : De (fun n => f_X10_sayings n 0 [.ref 0, .int v1, .int v2, .int v3] (hp S m q)) (.inl (some (.int v))) (hp S m1 q1)) (hm : De (fun n => f_X11_sayings n 0 [.ref 136, .int v1, .int v2, .int v3] (hp S m1 (uq q1 152 0 (Int32.toInt64 v)))) (.inl (some (.int v))) (hp S m2 (uq q1 152 0 (Int32.toInt64 v)))) (ht : m2 136 0 = 0) (hI : I (hp S m2 (uq q1 152 0 (Int32.toInt64 v)))) : oB 0 136 152 f_L_sayings f_X11_sayings [.int v1, .int v2, .int v3] (hp S m q) I := by
  refine ⟨J 0, v, _, _, ?_, x136_k hs, hm, x136_k hs, De.eq 1 (fun n => by rw [e_thrown hs, ht]), fun _ => aJ_out hs, hI⟩
  show De (fun n => f_L_sayings n 0 [.ref 0, .int v1, .int v2, .int v3, .ref 152] (hp S m q)) _ _
  refine De.step ?_
  simp only [j_L_sayings_0, b_L_sayings_0, x0_k hs, Option.bind_some]
  refine De.call hc ?_
  simp only [xIh]
  simp (disch := omega) only [J_lit, x152_s hs, Option.bind_some]
  exact De.ret _ _
theorem ob_sayings_t0 {v1 v2 v3 : Int32} (hs : Sk S) (hr : 153 ≤ S.1) (hc : De (fun n => f_X10_sayings n 0 [.ref 0, .int v1, .int v2, .int v3] (hp S m q)) (.inr S.1) (hp (xth S 0) m1 q1)) (hm : De (fun n => f_X11_sayings n 0 [.ref 136, .int v1, .int v2, .int v3] (hp (xth S 0) m1 q1)) (.inl (some (.int b))) (hp (xth S 0) m2 q1)) (ht : m2 136 0 = 1) (hI : I (hp (xth S 0) m2 q1)) : oB 0 136 152 f_L_sayings f_X11_sayings [.int v1, .int v2, .int v3] (hp S m q) I := by
  have hs2 : Sk (xth S 0) := hs.grow (Grow.th S 0) hr
  refine ⟨J 1, b, _, _, ?_, x136_k hs2, hm, x136_k hs2, De.eq 1 (fun n => by rw [e_thrown hs2, ht]), fun z => absurd z (by decide), hI⟩
  show De (fun n => f_L_sayings n 0 [.ref 0, .int v1, .int v2, .int v3, .ref 152] (hp S m q)) _ _
  refine De.step ?_
  simp only [j_L_sayings_0, b_L_sayings_0, x0_k hs, Option.bind_some]
  refine De.call hc ?_
  simp only [xIh]
  simp only [xcat_hp S _ _ (show 0 < 5 by decide), Option.bind_some, if_true, if_false, J_lit]
  exact De.ret _ _
theorem ob_speed_ok {v1 : Int32} (hs : Sk S) (hc : De (fun n => f_X10_speed n 0 [.ref 0, .int v1] (hp S m q)) (.inl none) (hp S m1 q1)) (hm : De (fun n => f_X11_speed n 0 [.ref 136, .int v1] (hp S m1 q1)) (.inl none) (hp S m2 q1)) (ht : m2 136 0 = 0) (hI : I (hp S m2 q1)) : oC 0 136 f_L_speed f_X11_speed [.int v1] (hp S m q) I := by
  refine ⟨J 0, _, _, ?_, x136_k hs, hm, x136_k hs, De.eq 1 (fun n => by rw [e_thrown hs, ht]), hI⟩
  show De (fun n => f_L_speed n 0 [.ref 0, .int v1] (hp S m q)) _ _
  refine De.step ?_
  simp only [j_L_speed_0, b_L_speed_0, x0_k hs, Option.bind_some]
  refine De.call hc ?_
  simp only [xUh, J_lit]
  exact De.ret _ _
theorem ob_speed_t1 {v1 : Int32} (hs : Sk S) (hr : 153 ≤ S.1) (hc : De (fun n => f_X10_speed n 0 [.ref 0, .int v1] (hp S m q)) (.inr S.1) (hp (xth S 1) m1 q1)) (hm : De (fun n => f_X11_speed n 0 [.ref 136, .int v1] (hp (xth S 1) m1 q1)) (.inl none) (hp (xth S 1) m2 q1)) (ht : m2 136 0 = 1) (hI : I (hp (xth S 1) m2 q1)) : oC 0 136 f_L_speed f_X11_speed [.int v1] (hp S m q) I := by
  have hs2 : Sk (xth S 1) := hs.grow (Grow.th S 1) hr
  refine ⟨J 1, _, _, ?_, x136_k hs2, hm, x136_k hs2, De.eq 1 (fun n => by rw [e_thrown hs2, ht]), hI⟩
  show De (fun n => f_L_speed n 0 [.ref 0, .int v1] (hp S m q)) _ _
  refine De.step ?_
  simp only [j_L_speed_0, b_L_speed_0, x0_k hs, Option.bind_some]
  refine De.call hc ?_
  simp only [xUh]
  simp only [xcat_hp S _ _ (show 1 < 5 by decide), Option.bind_some, if_true, if_false, J_lit]
  exact De.ret _ _
theorem ob_could_ok {v1 v2 v3 : Int32} (hs : Sk S) (hc : De (fun n => f_X10_could n 0 [.ref 0, .int v1, .int v2, .int v3] (hp S m q)) (.inl (some (.int v))) (hp S m1 q1)) (hm : De (fun n => f_X11_could n 0 [.ref 136, .int v1, .int v2, .int v3] (hp S m1 (uq q1 152 0 (Int32.toInt64 v)))) (.inl (some (.int v))) (hp S m2 (uq q1 152 0 (Int32.toInt64 v)))) (ht : m2 136 0 = 0) (hI : I (hp S m2 (uq q1 152 0 (Int32.toInt64 v)))) : oB 0 136 152 f_L_could f_X11_could [.int v1, .int v2, .int v3] (hp S m q) I := by
  refine ⟨J 0, v, _, _, ?_, x136_k hs, hm, x136_k hs, De.eq 1 (fun n => by rw [e_thrown hs, ht]), fun _ => aJ_out hs, hI⟩
  show De (fun n => f_L_could n 0 [.ref 0, .int v1, .int v2, .int v3, .ref 152] (hp S m q)) _ _
  refine De.step ?_
  simp only [j_L_could_0, b_L_could_0, x0_k hs, Option.bind_some]
  refine De.call hc ?_
  simp only [xIh]
  simp (disch := omega) only [J_lit, x152_s hs, Option.bind_some]
  exact De.ret _ _
theorem ob_could_t0 {v1 v2 v3 : Int32} (hs : Sk S) (hr : 153 ≤ S.1) (hc : De (fun n => f_X10_could n 0 [.ref 0, .int v1, .int v2, .int v3] (hp S m q)) (.inr S.1) (hp (xth S 0) m1 q1)) (hm : De (fun n => f_X11_could n 0 [.ref 136, .int v1, .int v2, .int v3] (hp (xth S 0) m1 q1)) (.inl (some (.int b))) (hp (xth S 0) m2 q1)) (ht : m2 136 0 = 1) (hI : I (hp (xth S 0) m2 q1)) : oB 0 136 152 f_L_could f_X11_could [.int v1, .int v2, .int v3] (hp S m q) I := by
  have hs2 : Sk (xth S 0) := hs.grow (Grow.th S 0) hr
  refine ⟨J 1, b, _, _, ?_, x136_k hs2, hm, x136_k hs2, De.eq 1 (fun n => by rw [e_thrown hs2, ht]), fun z => absurd z (by decide), hI⟩
  show De (fun n => f_L_could n 0 [.ref 0, .int v1, .int v2, .int v3, .ref 152] (hp S m q)) _ _
  refine De.step ?_
  simp only [j_L_could_0, b_L_could_0, x0_k hs, Option.bind_some]
  refine De.call hc ?_
  simp only [xIh]
  simp only [xcat_hp S _ _ (show 0 < 5 by decide), Option.bind_some, if_true, if_false, J_lit]
  exact De.ret _ _
theorem ob_could_t1 {v1 v2 v3 : Int32} (hs : Sk S) (hr : 153 ≤ S.1) (hc : De (fun n => f_X10_could n 0 [.ref 0, .int v1, .int v2, .int v3] (hp S m q)) (.inr S.1) (hp (xth S 1) m1 q1)) (hm : De (fun n => f_X11_could n 0 [.ref 136, .int v1, .int v2, .int v3] (hp (xth S 1) m1 q1)) (.inl (some (.int b))) (hp (xth S 1) m2 q1)) (ht : m2 136 0 = 2) (hI : I (hp (xth S 1) m2 q1)) : oB 0 136 152 f_L_could f_X11_could [.int v1, .int v2, .int v3] (hp S m q) I := by
  have hs2 : Sk (xth S 1) := hs.grow (Grow.th S 1) hr
  refine ⟨J 2, b, _, _, ?_, x136_k hs2, hm, x136_k hs2, De.eq 1 (fun n => by rw [e_thrown hs2, ht]), fun z => absurd z (by decide), hI⟩
  show De (fun n => f_L_could n 0 [.ref 0, .int v1, .int v2, .int v3, .ref 152] (hp S m q)) _ _
  refine De.step ?_
  simp only [j_L_could_0, b_L_could_0, x0_k hs, Option.bind_some]
  refine De.call hc ?_
  simp only [xIh]
  simp only [xcat_hp S _ _ (show 1 < 5 by decide), Option.bind_some, show ((1 : Nat) = 0) = False from eq_false (by decide), if_true, if_false, J_lit]
  exact De.ret _ _
theorem ob_least_ok {v1 v2 v3 : Int32} (hs : Sk S) (hc : De (fun n => f_X10_least n 0 [.ref 0, .int v1, .int v2, .int v3] (hp S m q)) (.inl (some (.int v))) (hp S m1 q1)) (hm : De (fun n => f_X11_least n 0 [.ref 136, .int v1, .int v2, .int v3] (hp S m1 (uq q1 152 0 (Int32.toInt64 v)))) (.inl (some (.int v))) (hp S m2 (uq q1 152 0 (Int32.toInt64 v)))) (ht : m2 136 0 = 0) (hI : I (hp S m2 (uq q1 152 0 (Int32.toInt64 v)))) : oB 0 136 152 f_L_least f_X11_least [.int v1, .int v2, .int v3] (hp S m q) I := by
  refine ⟨J 0, v, _, _, ?_, x136_k hs, hm, x136_k hs, De.eq 1 (fun n => by rw [e_thrown hs, ht]), fun _ => aJ_out hs, hI⟩
  show De (fun n => f_L_least n 0 [.ref 0, .int v1, .int v2, .int v3, .ref 152] (hp S m q)) _ _
  refine De.step ?_
  simp only [j_L_least_0, b_L_least_0, x0_k hs, Option.bind_some]
  refine De.call hc ?_
  simp only [xIh]
  simp (disch := omega) only [J_lit, x152_s hs, Option.bind_some]
  exact De.ret _ _
theorem ob_least_t0 {v1 v2 v3 : Int32} (hs : Sk S) (hr : 153 ≤ S.1) (hc : De (fun n => f_X10_least n 0 [.ref 0, .int v1, .int v2, .int v3] (hp S m q)) (.inr S.1) (hp (xth S 0) m1 q1)) (hm : De (fun n => f_X11_least n 0 [.ref 136, .int v1, .int v2, .int v3] (hp (xth S 0) m1 q1)) (.inl (some (.int b))) (hp (xth S 0) m2 q1)) (ht : m2 136 0 = 1) (hI : I (hp (xth S 0) m2 q1)) : oB 0 136 152 f_L_least f_X11_least [.int v1, .int v2, .int v3] (hp S m q) I := by
  have hs2 : Sk (xth S 0) := hs.grow (Grow.th S 0) hr
  refine ⟨J 1, b, _, _, ?_, x136_k hs2, hm, x136_k hs2, De.eq 1 (fun n => by rw [e_thrown hs2, ht]), fun z => absurd z (by decide), hI⟩
  show De (fun n => f_L_least n 0 [.ref 0, .int v1, .int v2, .int v3, .ref 152] (hp S m q)) _ _
  refine De.step ?_
  simp only [j_L_least_0, b_L_least_0, x0_k hs, Option.bind_some]
  refine De.call hc ?_
  simp only [xIh]
  simp only [xcat_hp S _ _ (show 0 < 5 by decide), Option.bind_some, if_true, if_false, J_lit]
  exact De.ret _ _
theorem ob_judge_ok {v1 v2 : Int32} (hs : Sk S) (hc : De (fun n => f_X10_judge n 0 [.ref 0, .int v1, .int v2] (hp S m q)) (.inl (some (.int v))) (hp S m1 q1)) (hm : De (fun n => f_X11_judge n 0 [.ref 136, .int v1, .int v2] (hp S m1 (uq q1 152 0 (if v = 0 then 0 else 1)))) (.inl (some (.int v))) (hp S m2 (uq q1 152 0 (if v = 0 then 0 else 1)))) (ht : m2 136 0 = 0) (hI : I (hp S m2 (uq q1 152 0 (if v = 0 then 0 else 1)))) : oZ 0 136 152 f_L_judge f_X11_judge [.int v1, .int v2] (hp S m q) I := by
  refine ⟨J 0, v, _, _, ?_, x136_k hs, hm, x136_k hs, De.eq 1 (fun n => by rw [e_thrown hs, ht]), fun _ => aJ_out hs, ⟨_, aJ_out hs⟩, hI⟩
  show De (fun n => f_L_judge n 0 [.ref 0, .int v1, .int v2, .ref 152] (hp S m q)) _ _
  refine De.step ?_
  simp only [j_L_judge_0, b_L_judge_0, x0_k hs, Option.bind_some]
  refine De.call hc ?_
  simp only [xIh]
  by_cases c : v = 0
  · simp only [c, if_true]
    simp (disch := omega) only [J_lit, x152_s hs, Option.bind_some]
    exact De.ret _ _
  · simp only [c, if_false]
    simp (disch := omega) only [J_lit, x152_s hs, Option.bind_some]
    exact De.ret _ _
theorem ob_judge_t0 {v1 v2 : Int32} (hs : Sk S) (hr : 153 ≤ S.1) (hc : De (fun n => f_X10_judge n 0 [.ref 0, .int v1, .int v2] (hp S m q)) (.inr S.1) (hp (xth S 0) m1 q1)) (hm : De (fun n => f_X11_judge n 0 [.ref 136, .int v1, .int v2] (hp (xth S 0) m1 q1)) (.inl (some (.int b))) (hp (xth S 0) m2 q1)) (ht : m2 136 0 = 1) (hI : I (hp (xth S 0) m2 q1)) : oZ 0 136 152 f_L_judge f_X11_judge [.int v1, .int v2] (hp S m q) I := by
  have hs2 : Sk (xth S 0) := hs.grow (Grow.th S 0) hr
  refine ⟨J 1, b, _, _, ?_, x136_k hs2, hm, x136_k hs2, De.eq 1 (fun n => by rw [e_thrown hs2, ht]), fun z => absurd z (by decide), ⟨_, x152_g (i := 0) hs2 (by omega) (by omega)⟩, hI⟩
  show De (fun n => f_L_judge n 0 [.ref 0, .int v1, .int v2, .ref 152] (hp S m q)) _ _
  refine De.step ?_
  simp only [j_L_judge_0, b_L_judge_0, x0_k hs, Option.bind_some]
  refine De.call hc ?_
  simp only [xIh]
  simp only [xcat_hp S _ _ (show 0 < 5 by decide), Option.bind_some, if_true, if_false, J_lit]
  exact De.ret _ _
theorem ob_weight_ok {v1 : Int32} (hs : Sk S) (hc : De (fun n => f_X10_weight n 0 [.ref 0, .int v1] (hp S m q)) (.inl (some (.int v))) (hp S m1 q1)) (hm : De (fun n => f_X11_weight n 0 [.ref 136, .int v1] (hp S m1 (uq q1 152 0 (Int32.toInt64 v)))) (.inl (some (.int v))) (hp S m2 (uq q1 152 0 (Int32.toInt64 v)))) (ht : m2 136 0 = 0) (hI : I (hp S m2 (uq q1 152 0 (Int32.toInt64 v)))) : oB 0 136 152 f_L_weight f_X11_weight [.int v1] (hp S m q) I := by
  refine ⟨J 0, v, _, _, ?_, x136_k hs, hm, x136_k hs, De.eq 1 (fun n => by rw [e_thrown hs, ht]), fun _ => aJ_out hs, hI⟩
  show De (fun n => f_L_weight n 0 [.ref 0, .int v1, .ref 152] (hp S m q)) _ _
  refine De.step ?_
  simp only [j_L_weight_0, b_L_weight_0, x0_k hs, Option.bind_some]
  refine De.call hc ?_
  simp only [xIh]
  simp (disch := omega) only [J_lit, x152_s hs, Option.bind_some]
  exact De.ret _ _
theorem ob_weight_t0 {v1 : Int32} (hs : Sk S) (hr : 153 ≤ S.1) (hc : De (fun n => f_X10_weight n 0 [.ref 0, .int v1] (hp S m q)) (.inr S.1) (hp (xth S 0) m1 q1)) (hm : De (fun n => f_X11_weight n 0 [.ref 136, .int v1] (hp (xth S 0) m1 q1)) (.inl (some (.int b))) (hp (xth S 0) m2 q1)) (ht : m2 136 0 = 1) (hI : I (hp (xth S 0) m2 q1)) : oB 0 136 152 f_L_weight f_X11_weight [.int v1] (hp S m q) I := by
  have hs2 : Sk (xth S 0) := hs.grow (Grow.th S 0) hr
  refine ⟨J 1, b, _, _, ?_, x136_k hs2, hm, x136_k hs2, De.eq 1 (fun n => by rw [e_thrown hs2, ht]), fun z => absurd z (by decide), hI⟩
  show De (fun n => f_L_weight n 0 [.ref 0, .int v1, .ref 152] (hp S m q)) _ _
  refine De.step ?_
  simp only [j_L_weight_0, b_L_weight_0, x0_k hs, Option.bind_some]
  refine De.call hc ?_
  simp only [xIh]
  simp only [xcat_hp S _ _ (show 0 < 5 by decide), Option.bind_some, if_true, if_false, J_lit]
  exact De.ret _ _
theorem ob_sure_ok {v1 v2 : Int32} (hs : Sk S) (hc : De (fun n => f_X10_sure n 0 [.ref 0, .int v1, .int v2] (hp S m q)) (.inl (some (.int v))) (hp S m1 q1)) (hm : De (fun n => f_X11_sure n 0 [.ref 136, .int v1, .int v2] (hp S m1 (uq q1 152 0 (Int32.toInt64 v)))) (.inl (some (.int v))) (hp S m2 (uq q1 152 0 (Int32.toInt64 v)))) (ht : m2 136 0 = 0) (hI : I (hp S m2 (uq q1 152 0 (Int32.toInt64 v)))) : oB 0 136 152 f_L_sure f_X11_sure [.int v1, .int v2] (hp S m q) I := by
  refine ⟨J 0, v, _, _, ?_, x136_k hs, hm, x136_k hs, De.eq 1 (fun n => by rw [e_thrown hs, ht]), fun _ => aJ_out hs, hI⟩
  show De (fun n => f_L_sure n 0 [.ref 0, .int v1, .int v2, .ref 152] (hp S m q)) _ _
  refine De.step ?_
  simp only [j_L_sure_0, b_L_sure_0, x0_k hs, Option.bind_some]
  refine De.call hc ?_
  simp only [xIh]
  simp (disch := omega) only [J_lit, x152_s hs, Option.bind_some]
  exact De.ret _ _
theorem ob_sure_t0 {v1 v2 : Int32} (hs : Sk S) (hr : 153 ≤ S.1) (hc : De (fun n => f_X10_sure n 0 [.ref 0, .int v1, .int v2] (hp S m q)) (.inr S.1) (hp (xth S 0) m1 q1)) (hm : De (fun n => f_X11_sure n 0 [.ref 136, .int v1, .int v2] (hp (xth S 0) m1 q1)) (.inl (some (.int b))) (hp (xth S 0) m2 q1)) (ht : m2 136 0 = 1) (hI : I (hp (xth S 0) m2 q1)) : oB 0 136 152 f_L_sure f_X11_sure [.int v1, .int v2] (hp S m q) I := by
  have hs2 : Sk (xth S 0) := hs.grow (Grow.th S 0) hr
  refine ⟨J 1, b, _, _, ?_, x136_k hs2, hm, x136_k hs2, De.eq 1 (fun n => by rw [e_thrown hs2, ht]), fun z => absurd z (by decide), hI⟩
  show De (fun n => f_L_sure n 0 [.ref 0, .int v1, .int v2, .ref 152] (hp S m q)) _ _
  refine De.step ?_
  simp only [j_L_sure_0, b_L_sure_0, x0_k hs, Option.bind_some]
  refine De.call hc ?_
  simp only [xIh]
  simp only [xcat_hp S _ _ (show 0 < 5 by decide), Option.bind_some, if_true, if_false, J_lit]
  exact De.ret _ _
theorem ob_describe_ok {v1 v2 v3 : Int32} (hs : Sk S) (hc : De (fun n => f_X10_describe n 0 [.ref 0, .int v1, .int v2, .int v3] (hp S m q)) (.inl (some (.int v))) (hp S m1 q1)) (hm : De (fun n => f_X11_describe n 0 [.ref 136, .int v1, .int v2, .int v3] (hp S m1 (uq q1 152 0 (Int32.toInt64 v)))) (.inl (some (.int v))) (hp S m2 (uq q1 152 0 (Int32.toInt64 v)))) (ht : m2 136 0 = 0) (hI : I (hp S m2 (uq q1 152 0 (Int32.toInt64 v)))) : oB 0 136 152 f_L_describe f_X11_describe [.int v1, .int v2, .int v3] (hp S m q) I := by
  refine ⟨J 0, v, _, _, ?_, x136_k hs, hm, x136_k hs, De.eq 1 (fun n => by rw [e_thrown hs, ht]), fun _ => aJ_out hs, hI⟩
  show De (fun n => f_L_describe n 0 [.ref 0, .int v1, .int v2, .int v3, .ref 152] (hp S m q)) _ _
  refine De.step ?_
  simp only [j_L_describe_0, b_L_describe_0, x0_k hs, Option.bind_some]
  refine De.call hc ?_
  simp only [xIh]
  simp (disch := omega) only [J_lit, x152_s hs, Option.bind_some]
  exact De.ret _ _
theorem ob_describe_t1 {v1 v2 v3 : Int32} (hs : Sk S) (hr : 153 ≤ S.1) (hc : De (fun n => f_X10_describe n 0 [.ref 0, .int v1, .int v2, .int v3] (hp S m q)) (.inr S.1) (hp (xth S 1) m1 q1)) (hm : De (fun n => f_X11_describe n 0 [.ref 136, .int v1, .int v2, .int v3] (hp (xth S 1) m1 q1)) (.inl (some (.int b))) (hp (xth S 1) m2 q1)) (ht : m2 136 0 = 1) (hI : I (hp (xth S 1) m2 q1)) : oB 0 136 152 f_L_describe f_X11_describe [.int v1, .int v2, .int v3] (hp S m q) I := by
  have hs2 : Sk (xth S 1) := hs.grow (Grow.th S 1) hr
  refine ⟨J 1, b, _, _, ?_, x136_k hs2, hm, x136_k hs2, De.eq 1 (fun n => by rw [e_thrown hs2, ht]), fun z => absurd z (by decide), hI⟩
  show De (fun n => f_L_describe n 0 [.ref 0, .int v1, .int v2, .int v3, .ref 152] (hp S m q)) _ _
  refine De.step ?_
  simp only [j_L_describe_0, b_L_describe_0, x0_k hs, Option.bind_some]
  refine De.call hc ?_
  simp only [xIh]
  simp only [xcat_hp S _ _ (show 1 < 5 by decide), Option.bind_some, if_true, if_false, J_lit]
  exact De.ret _ _
theorem ob_apart_ok {v1 : Int32} (hs : Sk S) (hc : De (fun n => f_X10_apart n 0 [.ref 0, .int v1] (hp S m q)) (.inl none) (hp S m1 q1)) (hm : De (fun n => f_X11_apart n 0 [.ref 136, .int v1] (hp S m1 q1)) (.inl none) (hp S m2 q1)) (ht : m2 136 0 = 0) (hI : I (hp S m2 q1)) : oC 0 136 f_L_apart f_X11_apart [.int v1] (hp S m q) I := by
  refine ⟨J 0, _, _, ?_, x136_k hs, hm, x136_k hs, De.eq 1 (fun n => by rw [e_thrown hs, ht]), hI⟩
  show De (fun n => f_L_apart n 0 [.ref 0, .int v1] (hp S m q)) _ _
  refine De.step ?_
  simp only [j_L_apart_0, b_L_apart_0, x0_k hs, Option.bind_some]
  refine De.call hc ?_
  simp only [xUh, J_lit]
  exact De.ret _ _
theorem ob_apart_t1 {v1 : Int32} (hs : Sk S) (hr : 153 ≤ S.1) (hc : De (fun n => f_X10_apart n 0 [.ref 0, .int v1] (hp S m q)) (.inr S.1) (hp (xth S 1) m1 q1)) (hm : De (fun n => f_X11_apart n 0 [.ref 136, .int v1] (hp (xth S 1) m1 q1)) (.inl none) (hp (xth S 1) m2 q1)) (ht : m2 136 0 = 1) (hI : I (hp (xth S 1) m2 q1)) : oC 0 136 f_L_apart f_X11_apart [.int v1] (hp S m q) I := by
  have hs2 : Sk (xth S 1) := hs.grow (Grow.th S 1) hr
  refine ⟨J 1, _, _, ?_, x136_k hs2, hm, x136_k hs2, De.eq 1 (fun n => by rw [e_thrown hs2, ht]), hI⟩
  show De (fun n => f_L_apart n 0 [.ref 0, .int v1] (hp S m q)) _ _
  refine De.step ?_
  simp only [j_L_apart_0, b_L_apart_0, x0_k hs, Option.bind_some]
  refine De.call hc ?_
  simp only [xUh]
  simp only [xcat_hp S _ _ (show 1 < 5 by decide), Option.bind_some, if_true, if_false, J_lit]
  exact De.ret _ _
theorem ob_heaps_ok {v1 : Int32} (hs : Sk S) (hc : De (fun n => f_X10_heaps n 0 [.ref 0, .int v1] (hp S m q)) (.inl (some (.int v))) (hp S m1 q1)) (hm : De (fun n => f_X11_heaps n 0 [.ref 136, .int v1] (hp S m1 (uq q1 152 0 (Int32.toInt64 v)))) (.inl (some (.int v))) (hp S m2 (uq q1 152 0 (Int32.toInt64 v)))) (ht : m2 136 0 = 0) (hI : I (hp S m2 (uq q1 152 0 (Int32.toInt64 v)))) : oB 0 136 152 f_L_heaps f_X11_heaps [.int v1] (hp S m q) I := by
  refine ⟨J 0, v, _, _, ?_, x136_k hs, hm, x136_k hs, De.eq 1 (fun n => by rw [e_thrown hs, ht]), fun _ => aJ_out hs, hI⟩
  show De (fun n => f_L_heaps n 0 [.ref 0, .int v1, .ref 152] (hp S m q)) _ _
  refine De.step ?_
  simp only [j_L_heaps_0, b_L_heaps_0, x0_k hs, Option.bind_some]
  refine De.call hc ?_
  simp only [xIh]
  simp (disch := omega) only [J_lit, x152_s hs, Option.bind_some]
  exact De.ret _ _
theorem ob_heaps_t4 {v1 : Int32} (hs : Sk S) (hr : 153 ≤ S.1) (hc : De (fun n => f_X10_heaps n 0 [.ref 0, .int v1] (hp S m q)) (.inr S.1) (hp (xth S 4) m1 q1)) (hm : De (fun n => f_X11_heaps n 0 [.ref 136, .int v1] (hp (xth S 4) m1 q1)) (.inl (some (.int b))) (hp (xth S 4) m2 q1)) (ht : m2 136 0 = 1) (hI : I (hp (xth S 4) m2 q1)) : oB 0 136 152 f_L_heaps f_X11_heaps [.int v1] (hp S m q) I := by
  have hs2 : Sk (xth S 4) := hs.grow (Grow.th S 4) hr
  refine ⟨J 1, b, _, _, ?_, x136_k hs2, hm, x136_k hs2, De.eq 1 (fun n => by rw [e_thrown hs2, ht]), fun z => absurd z (by decide), hI⟩
  show De (fun n => f_L_heaps n 0 [.ref 0, .int v1, .ref 152] (hp S m q)) _ _
  refine De.step ?_
  simp only [j_L_heaps_0, b_L_heaps_0, x0_k hs, Option.bind_some]
  refine De.call hc ?_
  simp only [xIh]
  simp only [xcat_hp S _ _ (show 4 < 5 by decide), Option.bind_some, if_true, if_false, J_lit]
  exact De.ret _ _
theorem ob_heap_ok {v1 : Int32} (hs : Sk S) (hc : De (fun n => f_X10_heap n 0 [.ref 0, .int v1] (hp S m q)) (.inl (some (.int v))) (hp S m1 q1)) (hm : De (fun n => f_X11_heap n 0 [.ref 136, .int v1] (hp S m1 (uq q1 152 0 (Int32.toInt64 v)))) (.inl (some (.int v))) (hp S m2 (uq q1 152 0 (Int32.toInt64 v)))) (ht : m2 136 0 = 0) (hI : I (hp S m2 (uq q1 152 0 (Int32.toInt64 v)))) : oB 0 136 152 f_L_heap f_X11_heap [.int v1] (hp S m q) I := by
  refine ⟨J 0, v, _, _, ?_, x136_k hs, hm, x136_k hs, De.eq 1 (fun n => by rw [e_thrown hs, ht]), fun _ => aJ_out hs, hI⟩
  show De (fun n => f_L_heap n 0 [.ref 0, .int v1, .ref 152] (hp S m q)) _ _
  refine De.step ?_
  simp only [j_L_heap_0, b_L_heap_0, x0_k hs, Option.bind_some]
  refine De.call hc ?_
  simp only [xIh]
  simp (disch := omega) only [J_lit, x152_s hs, Option.bind_some]
  exact De.ret _ _
theorem ob_heap_t0 {v1 : Int32} (hs : Sk S) (hr : 153 ≤ S.1) (hc : De (fun n => f_X10_heap n 0 [.ref 0, .int v1] (hp S m q)) (.inr S.1) (hp (xth S 0) m1 q1)) (hm : De (fun n => f_X11_heap n 0 [.ref 136, .int v1] (hp (xth S 0) m1 q1)) (.inl (some (.int b))) (hp (xth S 0) m2 q1)) (ht : m2 136 0 = 1) (hI : I (hp (xth S 0) m2 q1)) : oB 0 136 152 f_L_heap f_X11_heap [.int v1] (hp S m q) I := by
  have hs2 : Sk (xth S 0) := hs.grow (Grow.th S 0) hr
  refine ⟨J 1, b, _, _, ?_, x136_k hs2, hm, x136_k hs2, De.eq 1 (fun n => by rw [e_thrown hs2, ht]), fun z => absurd z (by decide), hI⟩
  show De (fun n => f_L_heap n 0 [.ref 0, .int v1, .ref 152] (hp S m q)) _ _
  refine De.step ?_
  simp only [j_L_heap_0, b_L_heap_0, x0_k hs, Option.bind_some]
  refine De.call hc ?_
  simp only [xIh]
  simp only [xcat_hp S _ _ (show 0 < 5 by decide), Option.bind_some, if_true, if_false, J_lit]
  exact De.ret _ _
theorem ob_stones_ok {v1 v2 v3 v4 v5 : Int32} (hs : Sk S) (hc : De (fun n => f_X10_stones n 0 [.ref 0, .int v1, .int v2, .int v3, .int v4, .int v5] (hp S m q)) (.inl (some (.int v))) (hp S m1 q1)) (hm : De (fun n => f_X11_stones n 0 [.ref 136, .int v1, .int v2, .int v3, .int v4, .int v5] (hp S m1 (uq q1 152 0 (Int32.toInt64 v)))) (.inl (some (.int v))) (hp S m2 (uq q1 152 0 (Int32.toInt64 v)))) (ht : m2 136 0 = 0) (hI : I (hp S m2 (uq q1 152 0 (Int32.toInt64 v)))) : oB 0 136 152 f_L_stones f_X11_stones [.int v1, .int v2, .int v3, .int v4, .int v5] (hp S m q) I := by
  refine ⟨J 0, v, _, _, ?_, x136_k hs, hm, x136_k hs, De.eq 1 (fun n => by rw [e_thrown hs, ht]), fun _ => aJ_out hs, hI⟩
  show De (fun n => f_L_stones n 0 [.ref 0, .int v1, .int v2, .int v3, .int v4, .int v5, .ref 152] (hp S m q)) _ _
  refine De.step ?_
  simp only [j_L_stones_0, b_L_stones_0, x0_k hs, Option.bind_some]
  refine De.call hc ?_
  simp only [xIh]
  simp (disch := omega) only [J_lit, x152_s hs, Option.bind_some]
  exact De.ret _ _
theorem ob_stones_t0 {v1 v2 v3 v4 v5 : Int32} (hs : Sk S) (hr : 153 ≤ S.1) (hc : De (fun n => f_X10_stones n 0 [.ref 0, .int v1, .int v2, .int v3, .int v4, .int v5] (hp S m q)) (.inr S.1) (hp (xth S 0) m1 q1)) (hm : De (fun n => f_X11_stones n 0 [.ref 136, .int v1, .int v2, .int v3, .int v4, .int v5] (hp (xth S 0) m1 q1)) (.inl (some (.int b))) (hp (xth S 0) m2 q1)) (ht : m2 136 0 = 1) (hI : I (hp (xth S 0) m2 q1)) : oB 0 136 152 f_L_stones f_X11_stones [.int v1, .int v2, .int v3, .int v4, .int v5] (hp S m q) I := by
  have hs2 : Sk (xth S 0) := hs.grow (Grow.th S 0) hr
  refine ⟨J 1, b, _, _, ?_, x136_k hs2, hm, x136_k hs2, De.eq 1 (fun n => by rw [e_thrown hs2, ht]), fun z => absurd z (by decide), hI⟩
  show De (fun n => f_L_stones n 0 [.ref 0, .int v1, .int v2, .int v3, .int v4, .int v5, .ref 152] (hp S m q)) _ _
  refine De.step ?_
  simp only [j_L_stones_0, b_L_stones_0, x0_k hs, Option.bind_some]
  refine De.call hc ?_
  simp only [xIh]
  simp only [xcat_hp S _ _ (show 0 < 5 by decide), Option.bind_some, if_true, if_false, J_lit]
  exact De.ret _ _
theorem ob_stones_t1 {v1 v2 v3 v4 v5 : Int32} (hs : Sk S) (hr : 153 ≤ S.1) (hc : De (fun n => f_X10_stones n 0 [.ref 0, .int v1, .int v2, .int v3, .int v4, .int v5] (hp S m q)) (.inr S.1) (hp (xth S 1) m1 q1)) (hm : De (fun n => f_X11_stones n 0 [.ref 136, .int v1, .int v2, .int v3, .int v4, .int v5] (hp (xth S 1) m1 q1)) (.inl (some (.int b))) (hp (xth S 1) m2 q1)) (ht : m2 136 0 = 2) (hI : I (hp (xth S 1) m2 q1)) : oB 0 136 152 f_L_stones f_X11_stones [.int v1, .int v2, .int v3, .int v4, .int v5] (hp S m q) I := by
  have hs2 : Sk (xth S 1) := hs.grow (Grow.th S 1) hr
  refine ⟨J 2, b, _, _, ?_, x136_k hs2, hm, x136_k hs2, De.eq 1 (fun n => by rw [e_thrown hs2, ht]), fun z => absurd z (by decide), hI⟩
  show De (fun n => f_L_stones n 0 [.ref 0, .int v1, .int v2, .int v3, .int v4, .int v5, .ref 152] (hp S m q)) _ _
  refine De.step ?_
  simp only [j_L_stones_0, b_L_stones_0, x0_k hs, Option.bind_some]
  refine De.call hc ?_
  simp only [xIh]
  simp only [xcat_hp S _ _ (show 1 < 5 by decide), Option.bind_some, show ((1 : Nat) = 0) = False from eq_false (by decide), if_true, if_false, J_lit]
  exact De.ret _ _
theorem ob_stones_t2 {v1 v2 v3 v4 v5 : Int32} (hs : Sk S) (hr : 153 ≤ S.1) (hc : De (fun n => f_X10_stones n 0 [.ref 0, .int v1, .int v2, .int v3, .int v4, .int v5] (hp S m q)) (.inr S.1) (hp (xth S 2) m1 q1)) (hm : De (fun n => f_X11_stones n 0 [.ref 136, .int v1, .int v2, .int v3, .int v4, .int v5] (hp (xth S 2) m1 q1)) (.inl (some (.int b))) (hp (xth S 2) m2 q1)) (ht : m2 136 0 = 3) (hI : I (hp (xth S 2) m2 q1)) : oB 0 136 152 f_L_stones f_X11_stones [.int v1, .int v2, .int v3, .int v4, .int v5] (hp S m q) I := by
  have hs2 : Sk (xth S 2) := hs.grow (Grow.th S 2) hr
  refine ⟨J 3, b, _, _, ?_, x136_k hs2, hm, x136_k hs2, De.eq 1 (fun n => by rw [e_thrown hs2, ht]), fun z => absurd z (by decide), hI⟩
  show De (fun n => f_L_stones n 0 [.ref 0, .int v1, .int v2, .int v3, .int v4, .int v5, .ref 152] (hp S m q)) _ _
  refine De.step ?_
  simp only [j_L_stones_0, b_L_stones_0, x0_k hs, Option.bind_some]
  refine De.call hc ?_
  simp only [xIh]
  simp only [xcat_hp S _ _ (show 2 < 5 by decide), Option.bind_some, show ((2 : Nat) = 0) = False from eq_false (by decide), show ((2 : Nat) = 1) = False from eq_false (by decide), if_true, if_false, J_lit]
  exact De.ret _ _
theorem ob_gang_ok {v1 v2 : Int32} (hs : Sk S) (hc : De (fun n => f_X10_gang n 0 [.ref 0, .int v1, .int v2] (hp S m q)) (.inl (some (.int v))) (hp S m1 q1)) (hm : De (fun n => f_X11_gang n 0 [.ref 136, .int v1, .int v2] (hp S m1 (uq q1 152 0 (Int32.toInt64 v)))) (.inl (some (.int v))) (hp S m2 (uq q1 152 0 (Int32.toInt64 v)))) (ht : m2 136 0 = 0) (hI : I (hp S m2 (uq q1 152 0 (Int32.toInt64 v)))) : oB 0 136 152 f_L_gang f_X11_gang [.int v1, .int v2] (hp S m q) I := by
  refine ⟨J 0, v, _, _, ?_, x136_k hs, hm, x136_k hs, De.eq 1 (fun n => by rw [e_thrown hs, ht]), fun _ => aJ_out hs, hI⟩
  show De (fun n => f_L_gang n 0 [.ref 0, .int v1, .int v2, .ref 152] (hp S m q)) _ _
  refine De.step ?_
  simp only [j_L_gang_0, b_L_gang_0, x0_k hs, Option.bind_some]
  refine De.call hc ?_
  simp only [xIh]
  simp (disch := omega) only [J_lit, x152_s hs, Option.bind_some]
  exact De.ret _ _
theorem ob_gang_t0 {v1 v2 : Int32} (hs : Sk S) (hr : 153 ≤ S.1) (hc : De (fun n => f_X10_gang n 0 [.ref 0, .int v1, .int v2] (hp S m q)) (.inr S.1) (hp (xth S 0) m1 q1)) (hm : De (fun n => f_X11_gang n 0 [.ref 136, .int v1, .int v2] (hp (xth S 0) m1 q1)) (.inl (some (.int b))) (hp (xth S 0) m2 q1)) (ht : m2 136 0 = 1) (hI : I (hp (xth S 0) m2 q1)) : oB 0 136 152 f_L_gang f_X11_gang [.int v1, .int v2] (hp S m q) I := by
  have hs2 : Sk (xth S 0) := hs.grow (Grow.th S 0) hr
  refine ⟨J 1, b, _, _, ?_, x136_k hs2, hm, x136_k hs2, De.eq 1 (fun n => by rw [e_thrown hs2, ht]), fun z => absurd z (by decide), hI⟩
  show De (fun n => f_L_gang n 0 [.ref 0, .int v1, .int v2, .ref 152] (hp S m q)) _ _
  refine De.step ?_
  simp only [j_L_gang_0, b_L_gang_0, x0_k hs, Option.bind_some]
  refine De.call hc ?_
  simp only [xIh]
  simp only [xcat_hp S _ _ (show 0 < 5 by decide), Option.bind_some, if_true, if_false, J_lit]
  exact De.ret _ _
theorem ob_gang_t1 {v1 v2 : Int32} (hs : Sk S) (hr : 153 ≤ S.1) (hc : De (fun n => f_X10_gang n 0 [.ref 0, .int v1, .int v2] (hp S m q)) (.inr S.1) (hp (xth S 1) m1 q1)) (hm : De (fun n => f_X11_gang n 0 [.ref 136, .int v1, .int v2] (hp (xth S 1) m1 q1)) (.inl (some (.int b))) (hp (xth S 1) m2 q1)) (ht : m2 136 0 = 2) (hI : I (hp (xth S 1) m2 q1)) : oB 0 136 152 f_L_gang f_X11_gang [.int v1, .int v2] (hp S m q) I := by
  have hs2 : Sk (xth S 1) := hs.grow (Grow.th S 1) hr
  refine ⟨J 2, b, _, _, ?_, x136_k hs2, hm, x136_k hs2, De.eq 1 (fun n => by rw [e_thrown hs2, ht]), fun z => absurd z (by decide), hI⟩
  show De (fun n => f_L_gang n 0 [.ref 0, .int v1, .int v2, .ref 152] (hp S m q)) _ _
  refine De.step ?_
  simp only [j_L_gang_0, b_L_gang_0, x0_k hs, Option.bind_some]
  refine De.call hc ?_
  simp only [xIh]
  simp only [xcat_hp S _ _ (show 1 < 5 by decide), Option.bind_some, show ((1 : Nat) = 0) = False from eq_false (by decide), if_true, if_false, J_lit]
  exact De.ret _ _
theorem ob_gang_t2 {v1 v2 : Int32} (hs : Sk S) (hr : 153 ≤ S.1) (hc : De (fun n => f_X10_gang n 0 [.ref 0, .int v1, .int v2] (hp S m q)) (.inr S.1) (hp (xth S 2) m1 q1)) (hm : De (fun n => f_X11_gang n 0 [.ref 136, .int v1, .int v2] (hp (xth S 2) m1 q1)) (.inl (some (.int b))) (hp (xth S 2) m2 q1)) (ht : m2 136 0 = 3) (hI : I (hp (xth S 2) m2 q1)) : oB 0 136 152 f_L_gang f_X11_gang [.int v1, .int v2] (hp S m q) I := by
  have hs2 : Sk (xth S 2) := hs.grow (Grow.th S 2) hr
  refine ⟨J 3, b, _, _, ?_, x136_k hs2, hm, x136_k hs2, De.eq 1 (fun n => by rw [e_thrown hs2, ht]), fun z => absurd z (by decide), hI⟩
  show De (fun n => f_L_gang n 0 [.ref 0, .int v1, .int v2, .ref 152] (hp S m q)) _ _
  refine De.step ?_
  simp only [j_L_gang_0, b_L_gang_0, x0_k hs, Option.bind_some]
  refine De.call hc ?_
  simp only [xIh]
  simp only [xcat_hp S _ _ (show 2 < 5 by decide), Option.bind_some, show ((2 : Nat) = 0) = False from eq_false (by decide), show ((2 : Nat) = 1) = False from eq_false (by decide), if_true, if_false, J_lit]
  exact De.ret _ _
theorem ob_saved_ok {v1 v2 : Int32} (hs : Sk S) (hc : De (fun n => f_X10_saved n 0 [.ref 0, .int v1, .int v2] (hp S m q)) (.inl (some (.int v))) (hp S m1 q1)) (hm : De (fun n => f_X11_saved n 0 [.ref 136, .int v1, .int v2] (hp S m1 (uq q1 152 0 (Int32.toInt64 v)))) (.inl (some (.int v))) (hp S m2 (uq q1 152 0 (Int32.toInt64 v)))) (ht : m2 136 0 = 0) (hI : I (hp S m2 (uq q1 152 0 (Int32.toInt64 v)))) : oB 0 136 152 f_L_saved f_X11_saved [.int v1, .int v2] (hp S m q) I := by
  refine ⟨J 0, v, _, _, ?_, x136_k hs, hm, x136_k hs, De.eq 1 (fun n => by rw [e_thrown hs, ht]), fun _ => aJ_out hs, hI⟩
  show De (fun n => f_L_saved n 0 [.ref 0, .int v1, .int v2, .ref 152] (hp S m q)) _ _
  refine De.step ?_
  simp only [j_L_saved_0, b_L_saved_0, x0_k hs, Option.bind_some]
  refine De.call hc ?_
  simp only [xIh]
  simp (disch := omega) only [J_lit, x152_s hs, Option.bind_some]
  exact De.ret _ _
theorem ob_saved_t0 {v1 v2 : Int32} (hs : Sk S) (hr : 153 ≤ S.1) (hc : De (fun n => f_X10_saved n 0 [.ref 0, .int v1, .int v2] (hp S m q)) (.inr S.1) (hp (xth S 0) m1 q1)) (hm : De (fun n => f_X11_saved n 0 [.ref 136, .int v1, .int v2] (hp (xth S 0) m1 q1)) (.inl (some (.int b))) (hp (xth S 0) m2 q1)) (ht : m2 136 0 = 1) (hI : I (hp (xth S 0) m2 q1)) : oB 0 136 152 f_L_saved f_X11_saved [.int v1, .int v2] (hp S m q) I := by
  have hs2 : Sk (xth S 0) := hs.grow (Grow.th S 0) hr
  refine ⟨J 1, b, _, _, ?_, x136_k hs2, hm, x136_k hs2, De.eq 1 (fun n => by rw [e_thrown hs2, ht]), fun z => absurd z (by decide), hI⟩
  show De (fun n => f_L_saved n 0 [.ref 0, .int v1, .int v2, .ref 152] (hp S m q)) _ _
  refine De.step ?_
  simp only [j_L_saved_0, b_L_saved_0, x0_k hs, Option.bind_some]
  refine De.call hc ?_
  simp only [xIh]
  simp only [xcat_hp S _ _ (show 0 < 5 by decide), Option.bind_some, if_true, if_false, J_lit]
  exact De.ret _ _
theorem ob_send_ok {v1 : Int32} (hs : Sk S) (hc : De (fun n => f_X10_send n 0 [.ref 0, .int v1] (hp S m q)) (.inl (some (.int v))) (hp S m1 q1)) (hm : De (fun n => f_X11_send n 0 [.ref 136, .int v1] (hp S m1 (uq q1 152 0 (Int32.toInt64 v)))) (.inl (some (.int v))) (hp S m2 (uq q1 152 0 (Int32.toInt64 v)))) (ht : m2 136 0 = 0) (hI : I (hp S m2 (uq q1 152 0 (Int32.toInt64 v)))) : oB 0 136 152 f_L_send f_X11_send [.int v1] (hp S m q) I := by
  refine ⟨J 0, v, _, _, ?_, x136_k hs, hm, x136_k hs, De.eq 1 (fun n => by rw [e_thrown hs, ht]), fun _ => aJ_out hs, hI⟩
  show De (fun n => f_L_send n 0 [.ref 0, .int v1, .ref 152] (hp S m q)) _ _
  refine De.step ?_
  simp only [j_L_send_0, b_L_send_0, x0_k hs, Option.bind_some]
  refine De.call hc ?_
  simp only [xIh]
  simp (disch := omega) only [J_lit, x152_s hs, Option.bind_some]
  exact De.ret _ _
theorem ob_send_t0 {v1 : Int32} (hs : Sk S) (hr : 153 ≤ S.1) (hc : De (fun n => f_X10_send n 0 [.ref 0, .int v1] (hp S m q)) (.inr S.1) (hp (xth S 0) m1 q1)) (hm : De (fun n => f_X11_send n 0 [.ref 136, .int v1] (hp (xth S 0) m1 q1)) (.inl (some (.int b))) (hp (xth S 0) m2 q1)) (ht : m2 136 0 = 1) (hI : I (hp (xth S 0) m2 q1)) : oB 0 136 152 f_L_send f_X11_send [.int v1] (hp S m q) I := by
  have hs2 : Sk (xth S 0) := hs.grow (Grow.th S 0) hr
  refine ⟨J 1, b, _, _, ?_, x136_k hs2, hm, x136_k hs2, De.eq 1 (fun n => by rw [e_thrown hs2, ht]), fun z => absurd z (by decide), hI⟩
  show De (fun n => f_L_send n 0 [.ref 0, .int v1, .ref 152] (hp S m q)) _ _
  refine De.step ?_
  simp only [j_L_send_0, b_L_send_0, x0_k hs, Option.bind_some]
  refine De.call hc ?_
  simp only [xIh]
  simp only [xcat_hp S _ _ (show 0 < 5 by decide), Option.bind_some, if_true, if_false, J_lit]
  exact De.ret _ _
theorem ob_hide_ok {v1 v2 : Int32} (hs : Sk S) (hc : De (fun n => f_X10_hide n 0 [.ref 0, .int v1, .int v2] (hp S m q)) (.inl (some (.int v))) (hp S m1 q1)) (hm : De (fun n => f_X11_hide n 0 [.ref 136, .int v1, .int v2] (hp S m1 (uq q1 152 0 (if v = 0 then 0 else 1)))) (.inl (some (.int v))) (hp S m2 (uq q1 152 0 (if v = 0 then 0 else 1)))) (ht : m2 136 0 = 0) (hI : I (hp S m2 (uq q1 152 0 (if v = 0 then 0 else 1)))) : oZ 0 136 152 f_L_hide f_X11_hide [.int v1, .int v2] (hp S m q) I := by
  refine ⟨J 0, v, _, _, ?_, x136_k hs, hm, x136_k hs, De.eq 1 (fun n => by rw [e_thrown hs, ht]), fun _ => aJ_out hs, ⟨_, aJ_out hs⟩, hI⟩
  show De (fun n => f_L_hide n 0 [.ref 0, .int v1, .int v2, .ref 152] (hp S m q)) _ _
  refine De.step ?_
  simp only [j_L_hide_0, b_L_hide_0, x0_k hs, Option.bind_some]
  refine De.call hc ?_
  simp only [xIh]
  by_cases c : v = 0
  · simp only [c, if_true]
    simp (disch := omega) only [J_lit, x152_s hs, Option.bind_some]
    exact De.ret _ _
  · simp only [c, if_false]
    simp (disch := omega) only [J_lit, x152_s hs, Option.bind_some]
    exact De.ret _ _
theorem ob_hide_t0 {v1 v2 : Int32} (hs : Sk S) (hr : 153 ≤ S.1) (hc : De (fun n => f_X10_hide n 0 [.ref 0, .int v1, .int v2] (hp S m q)) (.inr S.1) (hp (xth S 0) m1 q1)) (hm : De (fun n => f_X11_hide n 0 [.ref 136, .int v1, .int v2] (hp (xth S 0) m1 q1)) (.inl (some (.int b))) (hp (xth S 0) m2 q1)) (ht : m2 136 0 = 1) (hI : I (hp (xth S 0) m2 q1)) : oZ 0 136 152 f_L_hide f_X11_hide [.int v1, .int v2] (hp S m q) I := by
  have hs2 : Sk (xth S 0) := hs.grow (Grow.th S 0) hr
  refine ⟨J 1, b, _, _, ?_, x136_k hs2, hm, x136_k hs2, De.eq 1 (fun n => by rw [e_thrown hs2, ht]), fun z => absurd z (by decide), ⟨_, x152_g (i := 0) hs2 (by omega) (by omega)⟩, hI⟩
  show De (fun n => f_L_hide n 0 [.ref 0, .int v1, .int v2, .ref 152] (hp S m q)) _ _
  refine De.step ?_
  simp only [j_L_hide_0, b_L_hide_0, x0_k hs, Option.bind_some]
  refine De.call hc ?_
  simp only [xIh]
  simp only [xcat_hp S _ _ (show 0 < 5 by decide), Option.bind_some, if_true, if_false, J_lit]
  exact De.ret _ _
theorem ob_ask_ok {v1 v2 : Int32} (hs : Sk S) (hc : De (fun n => f_X10_ask n 0 [.ref 0, .int v1, .int v2] (hp S m q)) (.inl (some (.int v))) (hp S m1 q1)) (hm : De (fun n => f_X11_ask n 0 [.ref 136, .int v1, .int v2] (hp S m1 (uq q1 152 0 (Int32.toInt64 v)))) (.inl (some (.int v))) (hp S m2 (uq q1 152 0 (Int32.toInt64 v)))) (ht : m2 136 0 = 0) (hI : I (hp S m2 (uq q1 152 0 (Int32.toInt64 v)))) : oB 0 136 152 f_L_ask f_X11_ask [.int v1, .int v2] (hp S m q) I := by
  refine ⟨J 0, v, _, _, ?_, x136_k hs, hm, x136_k hs, De.eq 1 (fun n => by rw [e_thrown hs, ht]), fun _ => aJ_out hs, hI⟩
  show De (fun n => f_L_ask n 0 [.ref 0, .int v1, .int v2, .ref 152] (hp S m q)) _ _
  refine De.step ?_
  simp only [j_L_ask_0, b_L_ask_0, x0_k hs, Option.bind_some]
  refine De.call hc ?_
  simp only [xIh]
  simp (disch := omega) only [J_lit, x152_s hs, Option.bind_some]
  exact De.ret _ _
theorem ob_ask_t0 {v1 v2 : Int32} (hs : Sk S) (hr : 153 ≤ S.1) (hc : De (fun n => f_X10_ask n 0 [.ref 0, .int v1, .int v2] (hp S m q)) (.inr S.1) (hp (xth S 0) m1 q1)) (hm : De (fun n => f_X11_ask n 0 [.ref 136, .int v1, .int v2] (hp (xth S 0) m1 q1)) (.inl (some (.int b))) (hp (xth S 0) m2 q1)) (ht : m2 136 0 = 1) (hI : I (hp (xth S 0) m2 q1)) : oB 0 136 152 f_L_ask f_X11_ask [.int v1, .int v2] (hp S m q) I := by
  have hs2 : Sk (xth S 0) := hs.grow (Grow.th S 0) hr
  refine ⟨J 1, b, _, _, ?_, x136_k hs2, hm, x136_k hs2, De.eq 1 (fun n => by rw [e_thrown hs2, ht]), fun z => absurd z (by decide), hI⟩
  show De (fun n => f_L_ask n 0 [.ref 0, .int v1, .int v2, .ref 152] (hp S m q)) _ _
  refine De.step ?_
  simp only [j_L_ask_0, b_L_ask_0, x0_k hs, Option.bind_some]
  refine De.call hc ?_
  simp only [xIh]
  simp only [xcat_hp S _ _ (show 0 < 5 by decide), Option.bind_some, if_true, if_false, J_lit]
  exact De.ret _ _
theorem ob_far_ok {v1 v2 : Int32} (hs : Sk S) (hc : De (fun n => f_X10_far n 0 [.ref 0, .int v1, .int v2] (hp S m q)) (.inl (some (.int v))) (hp S m1 q1)) (hm : De (fun n => f_X11_far n 0 [.ref 136, .int v1, .int v2] (hp S m1 (uq q1 152 0 (Int32.toInt64 v)))) (.inl (some (.int v))) (hp S m2 (uq q1 152 0 (Int32.toInt64 v)))) (ht : m2 136 0 = 0) (hI : I (hp S m2 (uq q1 152 0 (Int32.toInt64 v)))) : oB 0 136 152 f_L_far f_X11_far [.int v1, .int v2] (hp S m q) I := by
  refine ⟨J 0, v, _, _, ?_, x136_k hs, hm, x136_k hs, De.eq 1 (fun n => by rw [e_thrown hs, ht]), fun _ => aJ_out hs, hI⟩
  show De (fun n => f_L_far n 0 [.ref 0, .int v1, .int v2, .ref 152] (hp S m q)) _ _
  refine De.step ?_
  simp only [j_L_far_0, b_L_far_0, x0_k hs, Option.bind_some]
  refine De.call hc ?_
  simp only [xIh]
  simp (disch := omega) only [J_lit, x152_s hs, Option.bind_some]
  exact De.ret _ _
theorem ob_far_t0 {v1 v2 : Int32} (hs : Sk S) (hr : 153 ≤ S.1) (hc : De (fun n => f_X10_far n 0 [.ref 0, .int v1, .int v2] (hp S m q)) (.inr S.1) (hp (xth S 0) m1 q1)) (hm : De (fun n => f_X11_far n 0 [.ref 136, .int v1, .int v2] (hp (xth S 0) m1 q1)) (.inl (some (.int b))) (hp (xth S 0) m2 q1)) (ht : m2 136 0 = 1) (hI : I (hp (xth S 0) m2 q1)) : oB 0 136 152 f_L_far f_X11_far [.int v1, .int v2] (hp S m q) I := by
  have hs2 : Sk (xth S 0) := hs.grow (Grow.th S 0) hr
  refine ⟨J 1, b, _, _, ?_, x136_k hs2, hm, x136_k hs2, De.eq 1 (fun n => by rw [e_thrown hs2, ht]), fun z => absurd z (by decide), hI⟩
  show De (fun n => f_L_far n 0 [.ref 0, .int v1, .int v2, .ref 152] (hp S m q)) _ _
  refine De.step ?_
  simp only [j_L_far_0, b_L_far_0, x0_k hs, Option.bind_some]
  refine De.call hc ?_
  simp only [xIh]
  simp only [xcat_hp S _ _ (show 0 < 5 by decide), Option.bind_some, if_true, if_false, J_lit]
  exact De.ret _ _
theorem ob_far_t1 {v1 v2 : Int32} (hs : Sk S) (hr : 153 ≤ S.1) (hc : De (fun n => f_X10_far n 0 [.ref 0, .int v1, .int v2] (hp S m q)) (.inr S.1) (hp (xth S 1) m1 q1)) (hm : De (fun n => f_X11_far n 0 [.ref 136, .int v1, .int v2] (hp (xth S 1) m1 q1)) (.inl (some (.int b))) (hp (xth S 1) m2 q1)) (ht : m2 136 0 = 2) (hI : I (hp (xth S 1) m2 q1)) : oB 0 136 152 f_L_far f_X11_far [.int v1, .int v2] (hp S m q) I := by
  have hs2 : Sk (xth S 1) := hs.grow (Grow.th S 1) hr
  refine ⟨J 2, b, _, _, ?_, x136_k hs2, hm, x136_k hs2, De.eq 1 (fun n => by rw [e_thrown hs2, ht]), fun z => absurd z (by decide), hI⟩
  show De (fun n => f_L_far n 0 [.ref 0, .int v1, .int v2, .ref 152] (hp S m q)) _ _
  refine De.step ?_
  simp only [j_L_far_0, b_L_far_0, x0_k hs, Option.bind_some]
  refine De.call hc ?_
  simp only [xIh]
  simp only [xcat_hp S _ _ (show 1 < 5 by decide), Option.bind_some, show ((1 : Nat) = 0) = False from eq_false (by decide), if_true, if_false, J_lit]
  exact De.ret _ _
theorem ob_would_ok {v1 : Int32} (hs : Sk S) (hc : De (fun n => f_X10_would n 0 [.ref 0, .int v1] (hp S m q)) (.inl (some (.int v))) (hp S m1 q1)) (hm : De (fun n => f_X11_would n 0 [.ref 136, .int v1] (hp S m1 (uq q1 152 0 (Int32.toInt64 v)))) (.inl (some (.int v))) (hp S m2 (uq q1 152 0 (Int32.toInt64 v)))) (ht : m2 136 0 = 0) (hI : I (hp S m2 (uq q1 152 0 (Int32.toInt64 v)))) : oB 0 136 152 f_L_would f_X11_would [.int v1] (hp S m q) I := by
  refine ⟨J 0, v, _, _, ?_, x136_k hs, hm, x136_k hs, De.eq 1 (fun n => by rw [e_thrown hs, ht]), fun _ => aJ_out hs, hI⟩
  show De (fun n => f_L_would n 0 [.ref 0, .int v1, .ref 152] (hp S m q)) _ _
  refine De.step ?_
  simp only [j_L_would_0, b_L_would_0, x0_k hs, Option.bind_some]
  refine De.call hc ?_
  simp only [xIh]
  simp (disch := omega) only [J_lit, x152_s hs, Option.bind_some]
  exact De.ret _ _
theorem ob_would_t0 {v1 : Int32} (hs : Sk S) (hr : 153 ≤ S.1) (hc : De (fun n => f_X10_would n 0 [.ref 0, .int v1] (hp S m q)) (.inr S.1) (hp (xth S 0) m1 q1)) (hm : De (fun n => f_X11_would n 0 [.ref 136, .int v1] (hp (xth S 0) m1 q1)) (.inl (some (.int b))) (hp (xth S 0) m2 q1)) (ht : m2 136 0 = 1) (hI : I (hp (xth S 0) m2 q1)) : oB 0 136 152 f_L_would f_X11_would [.int v1] (hp S m q) I := by
  have hs2 : Sk (xth S 0) := hs.grow (Grow.th S 0) hr
  refine ⟨J 1, b, _, _, ?_, x136_k hs2, hm, x136_k hs2, De.eq 1 (fun n => by rw [e_thrown hs2, ht]), fun z => absurd z (by decide), hI⟩
  show De (fun n => f_L_would n 0 [.ref 0, .int v1, .ref 152] (hp S m q)) _ _
  refine De.step ?_
  simp only [j_L_would_0, b_L_would_0, x0_k hs, Option.bind_some]
  refine De.call hc ?_
  simp only [xIh]
  simp only [xcat_hp S _ _ (show 0 < 5 by decide), Option.bind_some, if_true, if_false, J_lit]
  exact De.ret _ _
theorem ob_would_t1 {v1 : Int32} (hs : Sk S) (hr : 153 ≤ S.1) (hc : De (fun n => f_X10_would n 0 [.ref 0, .int v1] (hp S m q)) (.inr S.1) (hp (xth S 1) m1 q1)) (hm : De (fun n => f_X11_would n 0 [.ref 136, .int v1] (hp (xth S 1) m1 q1)) (.inl (some (.int b))) (hp (xth S 1) m2 q1)) (ht : m2 136 0 = 2) (hI : I (hp (xth S 1) m2 q1)) : oB 0 136 152 f_L_would f_X11_would [.int v1] (hp S m q) I := by
  have hs2 : Sk (xth S 1) := hs.grow (Grow.th S 1) hr
  refine ⟨J 2, b, _, _, ?_, x136_k hs2, hm, x136_k hs2, De.eq 1 (fun n => by rw [e_thrown hs2, ht]), fun z => absurd z (by decide), hI⟩
  show De (fun n => f_L_would n 0 [.ref 0, .int v1, .ref 152] (hp S m q)) _ _
  refine De.step ?_
  simp only [j_L_would_0, b_L_would_0, x0_k hs, Option.bind_some]
  refine De.call hc ?_
  simp only [xIh]
  simp only [xcat_hp S _ _ (show 1 < 5 by decide), Option.bind_some, show ((1 : Nat) = 0) = False from eq_false (by decide), if_true, if_false, J_lit]
  exact De.ret _ _
theorem ob_tear_ok {v1 v2 : Int32} (hs : Sk S) (hc : De (fun n => f_X10_tear n 0 [.ref 0, .int v1, .int v2] (hp S m q)) (.inl (some (.int v))) (hp S m1 q1)) (hm : De (fun n => f_X11_tear n 0 [.ref 136, .int v1, .int v2] (hp S m1 (uq q1 152 0 (Int32.toInt64 v)))) (.inl (some (.int v))) (hp S m2 (uq q1 152 0 (Int32.toInt64 v)))) (ht : m2 136 0 = 0) (hI : I (hp S m2 (uq q1 152 0 (Int32.toInt64 v)))) : oB 0 136 152 f_L_tear f_X11_tear [.int v1, .int v2] (hp S m q) I := by
  refine ⟨J 0, v, _, _, ?_, x136_k hs, hm, x136_k hs, De.eq 1 (fun n => by rw [e_thrown hs, ht]), fun _ => aJ_out hs, hI⟩
  show De (fun n => f_L_tear n 0 [.ref 0, .int v1, .int v2, .ref 152] (hp S m q)) _ _
  refine De.step ?_
  simp only [j_L_tear_0, b_L_tear_0, x0_k hs, Option.bind_some]
  refine De.call hc ?_
  simp only [xIh]
  simp (disch := omega) only [J_lit, x152_s hs, Option.bind_some]
  exact De.ret _ _
theorem ob_tear_t4 {v1 v2 : Int32} (hs : Sk S) (hr : 153 ≤ S.1) (hc : De (fun n => f_X10_tear n 0 [.ref 0, .int v1, .int v2] (hp S m q)) (.inr S.1) (hp (xth S 4) m1 q1)) (hm : De (fun n => f_X11_tear n 0 [.ref 136, .int v1, .int v2] (hp (xth S 4) m1 q1)) (.inl (some (.int b))) (hp (xth S 4) m2 q1)) (ht : m2 136 0 = 1) (hI : I (hp (xth S 4) m2 q1)) : oB 0 136 152 f_L_tear f_X11_tear [.int v1, .int v2] (hp S m q) I := by
  have hs2 : Sk (xth S 4) := hs.grow (Grow.th S 4) hr
  refine ⟨J 1, b, _, _, ?_, x136_k hs2, hm, x136_k hs2, De.eq 1 (fun n => by rw [e_thrown hs2, ht]), fun z => absurd z (by decide), hI⟩
  show De (fun n => f_L_tear n 0 [.ref 0, .int v1, .int v2, .ref 152] (hp S m q)) _ _
  refine De.step ?_
  simp only [j_L_tear_0, b_L_tear_0, x0_k hs, Option.bind_some]
  refine De.call hc ?_
  simp only [xIh]
  simp only [xcat_hp S _ _ (show 4 < 5 by decide), Option.bind_some, if_true, if_false, J_lit]
  exact De.ret _ _
end LAWX
