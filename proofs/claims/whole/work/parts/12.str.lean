/-! TEXTS: length and charAt of the constants -/
theorem wf_J0_38 : Cond.fieldLink RJ0 38 "java/lang/String" "COMPACT_STRINGS" "Z" ∈ xWS := xWS_in 809 (by decide +kernel) rfl
theorem wf_J0_1053 : Cond.fieldLink RJ0 1053 "jdk/internal/util/Preconditions" "SIOOBE_FORMATTER" "Ljava/util/function/BiFunction;" ∈ xWS := xWS_in 825 (by decide +kernel) rfl
theorem wf_J0_9 : Cond.fieldLink RJ0 9 "java/lang/String" "value" "[B" ∈ xWS := xWS_in 1957 (by decide +kernel) rfl
theorem wf_J0_15 : Cond.fieldLink RJ0 15 "java/lang/String" "coder" "B" ∈ xWS := xWS_in 1958 (by decide +kernel) rfl
def xsb (i : Nat) : List Int32 := (xStr.map (fun q => xtb q.2.2)).getD i []
theorem xsb_len (i : Nat) (h : i < 26) : (xStr.map (fun q => (xtb q.2.2).length)).getD i 0 = (xsb i).length := by
  have hl : i < xStr.length := h
  simp [xsb, List.getD, hl]
section XSTR
variable {G : xG} {l : Launch} {d d' : Nat} {M M' : xM} {pc : Nat} {L : xL} {stk st : List Value} {P : xH} {Q Q' : xR → xH → Prop}
theorem x_gcs (hd : decode M.2.1 pc = .ok (.getstatic 38, 3)) (hM : M.1.cls = RJ0) (K : Wp G l d M (pc + 3) L (.int 1 :: st) P Q) : Wp G l d M pc L st P Q := by
  intro p e s m args below meth c R n0 k0 hE hB H locs cells slots ls h3 h4 h5 h6 h7 h8
  have K := K p e s m args below meth c R n0 k0 hE hB H locs cells slots ls h3 h4 h5 h6 h7 h8
  obtain ⟨hx, hb, hml, hr, hlk, htb, hown, hnm, hts, hS, -⟩ := hE
  rw [hM] at hown
  exact va_gets hx hb hS.2.2.2.2.2.1 h8 hown (hts _ wf_J0_38) (fun _ h => h) hd K
theorem x_gsf (hd : decode M.2.1 pc = .ok (.getstatic 1053, 3)) (hM : M.1.cls = RJ0) (K : ∀ v, v = .null ∨ v = .retAddr 200 → Wp G l d M (pc + 3) L (v :: st) P Q) : Wp G l d M pc L st P Q := by
  intro p e s m args below meth c R n0 k0 hE hB H locs cells slots ls h3 h4 h5 h6 h7 h8
  have K := fun v hv => K v hv p e s m args below meth c R n0 k0 hE hB H locs cells slots ls h3 h4 h5 h6 h7 h8
  obtain ⟨hx, hb, hml, hr, hlk, htb, hown, hnm, hts, hS, -⟩ := hE
  rw [hM] at hown
  rcases hS.2.2.2.2.2.2.1 with hz | hz
  · exact va_gets hx hb hz h8 hown (hts _ wf_J0_1053) (fun _ h => h) hd (K .null (Or.inl rfl))
  · exact va_gets hx hb hz h8 hown (hts _ wf_J0_1053) (fun _ h => h) hd (K (.retAddr 200) (Or.inr rfl))
theorem x_sval {i : Nat} (hi : i < 26) (hd : decode M.2.1 pc = .ok (.getfield 9, 3)) (hM : M.1.cls = RJ0) (K : Wp G l d M (pc + 3) L (.retAddr (100 + i) :: st) P Q) : Wp G l d M pc L (.retAddr (i + 1) :: st) P Q := by
  intro p e s m args below meth c R n0 k0 hE hB H locs cells slots ls h3 h4 h5 h6 h7 h8
  have K := K p e s m args below meth c R n0 k0 hE hB H locs cells slots ls h3 h4 h5 h6 h7 h8
  obtain ⟨hx, hb, hml, hr, hlk, htb, hown, hnm, hts, hS, -⟩ := hE
  rw [hM] at hown
  exact vk_getf hx hb (hS.2.2.2.2.1.1 i hi).2.2.1 h8 hown (hts _ wf_J0_9) (fun _ h => h) hd K
theorem x_scod {i : Nat} (hi : i < 26) (hd : decode M.2.1 pc = .ok (.getfield 15, 3)) (hM : M.1.cls = RJ0) (K : Wp G l d M (pc + 3) L (.int 0 :: st) P Q) : Wp G l d M pc L (.retAddr (i + 1) :: st) P Q := by
  intro p e s m args below meth c R n0 k0 hE hB H locs cells slots ls h3 h4 h5 h6 h7 h8
  have K := K p e s m args below meth c R n0 k0 hE hB H locs cells slots ls h3 h4 h5 h6 h7 h8
  obtain ⟨hx, hb, hml, hr, hlk, htb, hown, hnm, hts, hS, -⟩ := hE
  rw [hM] at hown
  exact vk_getf hx hb (hS.2.2.2.2.1.1 i hi).2.1 h8 hown (hts _ wf_J0_15) (fun _ h => h) hd K
theorem x_sbl {i : Nat} (hi : i < 26) (hd : decode M.2.1 pc = .ok (.arraylength, 1)) (K : Wp G l d M (pc + 1) L (.int (Int32.ofNat (xsb i).length) :: st) P Q) : Wp G l d M pc L (.retAddr (100 + i) :: st) P Q := by
  intro p e s m args below meth c R n0 k0 hE hB H locs cells slots ls h3 h4 h5 h6 h7 h8
  have K := K p e s m args below meth c R n0 k0 hE hB H locs cells slots ls h3 h4 h5 h6 h7 h8
  obtain ⟨hx, hb, hml, hr, hlk, htb, hown, hnm, hts, hS, -⟩ := hE
  exact va_tlen hx hb (hS.2.2.2.2.1.1 i hi).2.2.2 h8 (by rw [xsb_len i hi]) hd K
theorem x_sba {i : Nat} {j : Int32} (hi : i < 26) (hd : decode M.2.1 pc = .ok (.baload, 1)) (hin : vp_in j (xsb i).length) (K : Wp G l d M (pc + 1) L (.int ((xsb i).getD j.toNatClampNeg 0) :: st) P Q) : Wp G l d M pc L (.int j :: .retAddr (100 + i) :: st) P Q := by
  intro p e s m args below meth c R n0 k0 hE hB H locs cells slots ls h3 h4 h5 h6 h7 h8
  have K := K p e s m args below meth c R n0 k0 hE hB H locs cells slots ls h3 h4 h5 h6 h7 h8
  obtain ⟨hx, hb, hml, hr, hlk, htb, hown, hnm, hts, hS, -⟩ := hE
  exact va_tb hx hb (hS.2.2.2.2.1.1 i hi).2.2.2 h8 (by rw [xsb_len i hi]; exact hin) rfl hd K
/-- a call on a text -/
theorem x_callT {idx n i : Nat} {as : List Value} (hi : i < 26) (hC : Ct G l d' M' (.retAddr (i + 1) :: as) P Q') (hd : decode M.2.1 pc = .ok (.invokevirtual idx, 3)) (hw : xCw M' n) (w1 : Cond.methodLink M.1.cls idx M'.1 ∈ xWS) (w2 : Cond.instanceMethod M'.1 ∈ xWS) (w3 : Cond.selects M'.1.cls M'.1 M'.1 ∈ xWS) (hn : as.length = n)
    (hcn : M'.1.cls = RJ0) (hdd : d' < d) (hml' : M'.2.2.1 ≤ 45) (hs : stk = as.reverse ++ .retAddr (i + 1) :: st) (hst : (st.map fun v => v.category).sum ≤ 8) (hhh : M.2.2.2.2 = [])
    (K : ∀ v P', Q' (.inl v) P' → Wp G l d M (pc + 3) L (v.toList ++ st) P' Q) (KX : ∀ i P', Q' (.inr i) P' → Q (.inr i) P') : Wp G l d M pc L stk P Q := by
  subst hs
  intro p e s m args below meth c R n0 k0 hE hB H locs cells slots ls h3 h4 h5 h6 h7 h8 T hT X
  obtain ⟨hx, hb, hml, hr, hlk, htb, hown, hnm, hts, hS, hRf, hRl, hl⟩ := id hE
  have hK : vx_Back l R p e below s args M'.1 3 8 (xPre G R (.retAddr (i + 1) :: as) P) (xPostR G P Q') (xPostX G P Q') := xp_back hC (by omega) (by omega) hts hw.cd hw.2.1
  obtain ⟨cell, q1, q2, q3⟩ := vk_recv hS.2.2.2.2.1 hi h8
  have hmap : (as.reverse ++ .retAddr (i + 1) :: st).map (xv G) = (as.map (xv G)).reverse ++ .ref (G.2.2.2.1 (i + 1)) :: st.map (xv G) := by simp [xv]
  rcases vx_callV X hx (C := M'.1.cls) (bytes := M'.2.1) (maxL := M'.2.2.1) (ret := M'.2.2.2.1) hown (hts _ w1) (hts _ w2) (hts _ w3) (hts _ hw.1) hw.2.2.1 hK (by rw [hT]; exact q1) q2 (by rw [hcn]; exact q3)
    (g := F0 m pc ls ((as.reverse ++ .retAddr (i + 1) :: st).map (xv G))) rfl (h5.1.trans (h6.trans hml.symm)) (argsL := as.map (xv G)) (rest := st.map (xv G)) (fun sig h => by rw [List.length_map]; exact hw.len hn sig h) hmap (x_wt hst) (by rw [hb]; exact hd)
    (fun vm₁ hW₁ => x_pre hS hB h3 h4 h7 h8 hT vm₁ hW₁) with ⟨v, vm₁, B, hW₁, X', ⟨v0, rfl, hp⟩, st1⟩ | ⟨q, vm₁, B, hW₁, X', ⟨i, rfl, hp⟩, st1⟩
  · obtain ⟨t, a1, b1⟩ := x_back (pc' := pc + 3) (st' := v0.toList ++ st) hE hB h3 h4 h5 h6 h8 hT X' hp (K v0)
    refine ⟨t, st1 t ?_, b1⟩
    rw [show (v0.map (xv G)).toList ++ st.map (xv G) = (v0.toList ++ st).map (xv G) by cases v0 <;> simp]
    exact a1
  · obtain ⟨t, a1, b1⟩ := x_out hE hhh h3 h4 h8 X' hp (KX i)
    exact ⟨t, st1.trans a1, b1⟩
end XSTR
section XSC
variable {G : xG} {l : Launch} (hl : l.stackTraces = false) {P : xH}
theorem ct_coder (hl : l.stackTraces = false) {i : Nat} (hi : i < 26) : Ct G l 2 mJ0_coder_7d493 [.retAddr (i + 1)] P (fun r P1 => (r, P1) = (.inl (some (.int 0)), P)) := by
  refine Ct.of hl (by decide +kernel) wc_J0_coder_7d493 (Nat.le_of_ble_eq_true rfl) ?_
  refine x_gcs dJ0_coder_7d493_0 rfl ?_
  refine x_if_eq 13 dJ0_coder_7d493_3 (by decide) (fun q => absurd q (by decide)) (fun _ => ?_)
  refine x_aload_n (Or.inr ⟨_, rfl⟩) dJ0_coder_7d493_6 rfl ?_
  refine x_scod hi dJ0_coder_7d493_7 rfl ?_
  refine x_goto 14 dJ0_coder_7d493_10 (by decide) ?_
  exact x_iret .byte rfl rfl dJ0_coder_7d493_14 rfl
theorem ct_isLatin1 (hl : l.stackTraces = false) {i : Nat} (hi : i < 26) : Ct G l 2 mJ0_isLatin1_aae02 [.retAddr (i + 1)] P (fun r P1 => (r, P1) = (.inl (some (.int 1)), P)) := by
  refine Ct.of hl (by decide +kernel) wc_J0_isLatin1_aae02 (Nat.le_of_ble_eq_true rfl) ?_
  refine x_gcs dJ0_isLatin1_aae02_0 rfl ?_
  refine x_if_eq 17 dJ0_isLatin1_aae02_3 (by decide) (fun q => absurd q (by decide)) (fun _ => ?_)
  refine x_aload_n (Or.inr ⟨_, rfl⟩) dJ0_isLatin1_aae02_6 rfl ?_
  refine x_scod hi dJ0_isLatin1_aae02_7 rfl ?_
  refine x_if_ne 17 dJ0_isLatin1_aae02_10 (by decide) (fun q => absurd rfl q) (fun _ => ?_)
  refine x_iconst 1 dJ0_isLatin1_aae02_13 (by decide) ?_
  refine x_goto 18 dJ0_isLatin1_aae02_14 (by decide) ?_
  exact x_iret .boolean rfl rfl dJ0_isLatin1_aae02_18 rfl
theorem ct_pchk (hl : l.stackTraces = false) {x y : Int32} {v : Value} (h0 : ¬ x < 0) (h1 : x < y) (hv : v = .null ∨ v = .retAddr 200) : Ct G l 2 mJ3_checkIndex_8e157 [.int x, .int y, v] P (fun r P1 => (r, P1) = (.inl (some (.int x)), P)) := by
  have key : Wp G l 2 mJ3_checkIndex_8e157 0 [some (.int x), some (.int y), some v] [] P (fun r P1 => (r, P1) = (.inl (some (.int x)), P)) := by
    refine x_iload_n dJ3_checkIndex_8e157_0 rfl ?_
    refine x_if_lt 9 dJ3_checkIndex_8e157_1 (by decide) (fun q => absurd q h0) (fun _ => ?_)
    refine x_iload_n dJ3_checkIndex_8e157_4 rfl ?_
    refine x_iload_n dJ3_checkIndex_8e157_5 rfl ?_
    refine x_icmp_lt 16 dJ3_checkIndex_8e157_6 (by decide) (fun _ => ?_) (fun q => absurd h1 q)
    refine x_iload_n dJ3_checkIndex_8e157_16 rfl ?_
    exact x_iret .int rfl rfl dJ3_checkIndex_8e157_17 rfl
  rcases hv with rfl | rfl
  · exact Ct.of hl (by decide +kernel) wc_J3_checkIndex_8e157 (Nat.le_of_ble_eq_true rfl) key
  · exact Ct.of hl (by decide +kernel) wc_J3_checkIndex_8e157 (Nat.le_of_ble_eq_true rfl) key
theorem ct_schk (hl : l.stackTraces = false) {x y : Int32} (h0 : ¬ x < 0) (h1 : x < y) : Ct G l 3 mJ0_checkIndex_df160 [.int x, .int y] P (fun r P1 => (r, P1) = (.inl none, P)) := by
  refine Ct.of hl (by decide +kernel) wc_J0_checkIndex_df160 (Nat.le_of_ble_eq_true rfl) ?_
  refine x_iload_n dJ0_checkIndex_df160_0 rfl ?_
  refine x_iload_n dJ0_checkIndex_df160_1 rfl ?_
  refine x_gsf dJ0_checkIndex_df160_2 rfl (fun v hv => ?_)
  refine x_callS (ct_pchk hl (v := v) h0 h1 hv) dJ0_checkIndex_df160_5 cw_J3_checkIndex_8e157 wl_J0_1059 ws_J3_checkIndex_8e157 rfl (by decide) (by decide) rfl (Nat.le_of_ble_eq_true rfl) rfl (fun v9 P9 hq9 => ?_) (fun i9 P9 hq9 => by cases hq9)
  cases hq9
  refine x_pop dJ0_checkIndex_df160_8 rfl ?_
  exact x_ret rfl dJ0_checkIndex_df160_9 rfl
theorem xsb_byte : ∀ i, i < 26 → ((xsb i).length < 2 ^ 31 ∧ ∀ b ∈ xsb i, ((b &&& (Int16.ofInt 255).toInt32).toUInt32 % 65536).toInt32 = b) := by decide +kernel
theorem ct_lcharAt (hl : l.stackTraces = false) {i : Nat} {x : Int32} (hi : i < 26) (hin : vp_in x (xsb i).length) : Ct G l 4 mJ1_charAt_3b067 [.retAddr (100 + i), .int x] P (fun r P1 => (r, P1) = (.inl (some (.int ((xsb i).getD x.toNatClampNeg 0))), P)) := by
  obtain ⟨j, hj, rfl⟩ := vp_in_of hin (xsb_byte i hi).1
  have hj2 := (xsb_byte i hi).1
  refine Ct.of hl (by decide +kernel) wc_J1_charAt_3b067 (Nat.le_of_ble_eq_true rfl) ?_
  refine x_iload_n dJ1_charAt_3b067_0 rfl ?_
  refine x_aload_n (Or.inr ⟨_, rfl⟩) dJ1_charAt_3b067_1 rfl ?_
  refine x_sbl hi dJ1_charAt_3b067_2 ?_
  refine x_callS (ct_schk hl (nI_pos (by omega)) (nI_lt hj hj2)) dJ1_charAt_3b067_3 cw_J0_checkIndex_df160 wl_J1_9 ws_J0_checkIndex_df160 rfl (by decide) (by decide) rfl (Nat.le_of_ble_eq_true rfl) rfl (fun v9 P9 hq9 => ?_) (fun i9 P9 hq9 => by cases hq9)
  cases hq9
  refine x_aload_n (Or.inr ⟨_, rfl⟩) dJ1_charAt_3b067_6 rfl ?_
  refine x_iload_n dJ1_charAt_3b067_7 rfl ?_
  refine x_sba hi dJ1_charAt_3b067_8 hin ?_
  refine x_sipush _ dJ1_charAt_3b067_9 rfl ?_
  refine x_iand dJ1_charAt_3b067_12 ?_
  refine x_i2c dJ1_charAt_3b067_13 ?_
  have hm : (xsb i).getD (nI j).toNatClampNeg 0 ∈ xsb i := by
    rw [nI_clamp (by omega)]
    rw [List.getD_eq_getElem?_getD, List.getElem?_eq_getElem hj]
    exact List.getElem_mem hj
  have hb := (xsb_byte i hi).2 _ hm
  rw [hb]
  refine x_iret .char rfl ?_ dJ1_charAt_3b067_14 rfl
  rw [← hb]
  exact pk_nc _
theorem ct_charAt (hl : l.stackTraces = false) {i : Nat} {x : Int32} (hi : i < 26) (hin : vp_in x (xsb i).length) : Ct G l 5 mJ0_charAt_5068e [.retAddr (i + 1), .int x] P (fun r P1 => (r, P1) = (.inl (some (.int ((xsb i).getD x.toNatClampNeg 0))), P)) := by
  refine Ct.of hl (by decide +kernel) wc_J0_charAt_5068e (Nat.le_of_ble_eq_true rfl) ?_
  refine x_aload_n (Or.inr ⟨_, rfl⟩) dJ0_charAt_5068e_0 rfl ?_
  refine x_callT hi (ct_isLatin1 hl hi) dJ0_charAt_5068e_1 cw_J0_isLatin1_aae02 wl_J0_492 wi_J0_isLatin1_aae02 wse_J0_isLatin1_aae02 rfl rfl (by decide) (by decide) rfl (Nat.le_of_ble_eq_true rfl) rfl (fun v9 P9 hq9 => ?_) (fun i9 P9 hq9 => by cases hq9)
  cases hq9
  refine x_if_eq 16 dJ0_charAt_5068e_4 (by decide) (fun q => absurd q (by decide)) (fun _ => ?_)
  refine x_aload_n (Or.inr ⟨_, rfl⟩) dJ0_charAt_5068e_7 rfl ?_
  refine x_sval hi dJ0_charAt_5068e_8 rfl ?_
  refine x_iload_n dJ0_charAt_5068e_11 rfl ?_
  refine x_callS (ct_lcharAt hl hi hin) dJ0_charAt_5068e_12 cw_J1_charAt_3b067 wl_J0_495 ws_J1_charAt_3b067 rfl (by decide) (by decide) rfl (Nat.le_of_ble_eq_true rfl) rfl (fun v9 P9 hq9 => ?_) (fun i9 P9 hq9 => by cases hq9)
  cases hq9
  obtain ⟨j, hj, rfl⟩ := vp_in_of hin (xsb_byte i hi).1
  have hj2 := (xsb_byte i hi).1
  have hm : (xsb i).getD (nI j).toNatClampNeg 0 ∈ xsb i := by
    rw [nI_clamp (by omega)]
    rw [List.getD_eq_getElem?_getD, List.getElem?_eq_getElem hj]
    exact List.getElem_mem hj
  refine x_iret .char rfl ?_ dJ0_charAt_5068e_15 rfl
  rw [← (xsb_byte i hi).2 _ hm]
  exact pk_nc _
theorem ct_length (hl : l.stackTraces = false) {i : Nat} (hi : i < 26) : Ct G l 3 mJ0_length_8abf5 [.retAddr (i + 1)] P (fun r P1 => (r, P1) = (.inl (some (.int (Int32.ofNat (xsb i).length))), P)) := by
  refine Ct.of hl (by decide +kernel) wc_J0_length_8abf5 (Nat.le_of_ble_eq_true rfl) ?_
  refine x_aload_n (Or.inr ⟨_, rfl⟩) dJ0_length_8abf5_0 rfl ?_
  refine x_sval hi dJ0_length_8abf5_1 rfl ?_
  refine x_sbl hi dJ0_length_8abf5_4 ?_
  refine x_aload_n (Or.inr ⟨_, rfl⟩) dJ0_length_8abf5_5 rfl ?_
  refine x_callT hi (ct_coder hl hi) dJ0_length_8abf5_6 cw_J0_coder_7d493 wl_J0_335 wi_J0_coder_7d493 wse_J0_coder_7d493 rfl rfl (by decide) (by decide) rfl (Nat.le_of_ble_eq_true rfl) rfl (fun v9 P9 hq9 => ?_) (fun i9 P9 hq9 => by cases hq9)
  cases hq9
  refine x_ishr dJ0_length_8abf5_9 ?_
  refine x_iret .int rfl rfl dJ0_length_8abf5_10 ?_
  show ((Sum.inl (some (Value.int (_ >>> ((0 : Int32) &&& 31)))) : xR), P) = _
  rw [sb_shr0]
end XSC
/-- a text's length; its char at a place -/
def sLn (k : Nat) : Option Int32 := if 0 < k ∧ k ≤ 26 then some (Int32.ofNat (xsb (k - 1)).length) else none
def sCh (k : Nat) (x : Int32) : Option Int32 := if 0 < k ∧ k ≤ 26 then (if x < 0 ∨ (xsb (k - 1)).length ≤ x.toNatClampNeg then none else some ((xsb (k - 1)).getD x.toNatClampNeg 0)) else none
section XSK
variable {G : xG} {l : Launch} {d : Nat} {M : xM} {pc : Nat} {L : xL} {st : List Value} {P : xH} {Q : xR → xH → Prop}
theorem k_sLn {k idx : Nat} {x : Int32} (hl : l.stackTraces = false) (e : sLn k = some x) (hd : decode M.2.1 pc = .ok (.invokevirtual idx, 3)) (w : Cond.methodLink M.1.cls idx yJ0_length_8abf5 ∈ xWS) (hdd : 3 < d) (hst : (st.map fun v => v.category).sum ≤ 8) (hhh : M.2.2.2.2 = []) (K : Wp G l d M (pc + 3) L (.int x :: st) P Q) : Wp G l d M pc L (.retAddr k :: st) P Q := by
  unfold sLn at e
  split at e
  · rename_i h
    cases e
    obtain ⟨i, rfl⟩ : ∃ i, k = i + 1 := ⟨k - 1, by omega⟩
    refine x_callT (i := i) (as := []) (by omega) (ct_length hl (by omega)) hd cw_J0_length_8abf5 w wi_J0_length_8abf5 wse_J0_length_8abf5 rfl rfl hdd (by decide) rfl hst hhh (fun v9 P9 hq9 => ?_) (fun i9 P9 hq9 => by cases hq9)
    cases hq9
    exact K
  · cases e
theorem k_sCh {k idx : Nat} {x y : Int32} (hl : l.stackTraces = false) (e : sCh k y = some x) (hd : decode M.2.1 pc = .ok (.invokevirtual idx, 3)) (w : Cond.methodLink M.1.cls idx yJ0_charAt_5068e ∈ xWS) (hdd : 5 < d) (hst : (st.map fun v => v.category).sum ≤ 8) (hhh : M.2.2.2.2 = []) (K : Wp G l d M (pc + 3) L (.int x :: st) P Q) : Wp G l d M pc L (.int y :: .retAddr k :: st) P Q := by
  unfold sCh at e
  split at e
  · rename_i h
    split at e
    · cases e
    · rename_i hi
      cases e
      obtain ⟨i, rfl⟩ : ∃ i, k = i + 1 := ⟨k - 1, by omega⟩
      refine x_callT (i := i) (as := [.int y]) (by omega) (ct_charAt hl (by omega) hi) hd cw_J0_charAt_5068e w wi_J0_charAt_5068e wse_J0_charAt_5068e rfl rfl hdd (by decide) rfl hst hhh (fun v9 P9 hq9 => ?_) (fun i9 P9 hq9 => by cases hq9)
      cases hq9
      exact K
  · cases e
end XSK
/-! Math -/
def mMax (x y : Int32) : Int32 := if x < y then y else x
def mMin (x y : Int32) : Int32 := if y < x then y else x
def mAbs (x : Int32) : Int32 := if 0 ≤ x then x else 0 - x
section XMATH
variable {G : xG} {l : Launch} {d : Nat} {M : xM} {pc : Nat} {L : xL} {st : List Value} {P : xH} {Q : xR → xH → Prop}
theorem x_mmax {idx : Nat} {x y : Int32} (hd : decode M.2.1 pc = .ok (.invokestatic idx, 3)) (w : Cond.methodLink M.1.cls idx yJ9_max_7cf53 ∈ xWS) (hst : (st.map fun v => v.category).sum ≤ 8) (hdd : 1 ≤ d) (K : Wp G l d M (pc + 3) L (.int (mMax x y) :: st) P Q) : Wp G l d M pc L (.int y :: .int x :: st) P Q := by
  intro p e s m args below meth c R n0 k0 hE hB H locs cells slots ls h3 h4 h5 h6 h7 h8
  have K := K p e s m args below meth c R n0 k0 hE hB H locs cells slots ls h3 h4 h5 h6 h7 h8
  obtain ⟨hx, hb, hml, hr, hlk, htb, hown, hnm, hts, hS, hRf, hRl, hl⟩ := hE
  obtain ⟨b1, b2, b3⟩ := hB
  have b1 : R.cells + n0 = 601024 := b1
  have b2 : R.slots + k0 = 7293034 := b2
  have h10 := h7.2.2.2
  have h9 := x_wt (G := G) (pc := pc) (m := m) (ls := ls) (st0 := []) hst
  exact va_mmax hx hb (hml.trans (h6.symm.trans h5.1.symm)) hown (hts _ w) (hts _ ws_J9_max_7cf53) (hts _ wini_J9) (hts _ wc_J9_max_7cf53) (by omega) (by omega) (by omega) (by omega) hd K
theorem x_mmin {idx : Nat} {x y : Int32} (hd : decode M.2.1 pc = .ok (.invokestatic idx, 3)) (w : Cond.methodLink M.1.cls idx yJ9_min_7cf53 ∈ xWS) (hst : (st.map fun v => v.category).sum ≤ 8) (hdd : 1 ≤ d) (K : Wp G l d M (pc + 3) L (.int (mMin x y) :: st) P Q) : Wp G l d M pc L (.int y :: .int x :: st) P Q := by
  intro p e s m args below meth c R n0 k0 hE hB H locs cells slots ls h3 h4 h5 h6 h7 h8
  have K := K p e s m args below meth c R n0 k0 hE hB H locs cells slots ls h3 h4 h5 h6 h7 h8
  obtain ⟨hx, hb, hml, hr, hlk, htb, hown, hnm, hts, hS, hRf, hRl, hl⟩ := hE
  obtain ⟨b1, b2, b3⟩ := hB
  have b1 : R.cells + n0 = 601024 := b1
  have b2 : R.slots + k0 = 7293034 := b2
  have h10 := h7.2.2.2
  have h9 := x_wt (G := G) (pc := pc) (m := m) (ls := ls) (st0 := []) hst
  exact va_mmin hx hb (hml.trans (h6.symm.trans h5.1.symm)) hown (hts _ w) (hts _ ws_J9_min_7cf53) (hts _ wini_J9) (hts _ wc_J9_min_7cf53) (by omega) (by omega) (by omega) (by omega) hd K
theorem x_mabs {idx : Nat} {x : Int32} (hd : decode M.2.1 pc = .ok (.invokestatic idx, 3)) (w : Cond.methodLink M.1.cls idx yJ9_abs_0f7a4 ∈ xWS) (hst : (st.map fun v => v.category).sum ≤ 8) (hdd : 1 ≤ d) (K : Wp G l d M (pc + 3) L (.int (mAbs x) :: st) P Q) : Wp G l d M pc L (.int x :: st) P Q := by
  intro p e s m args below meth c R n0 k0 hE hB H locs cells slots ls h3 h4 h5 h6 h7 h8
  have K := K p e s m args below meth c R n0 k0 hE hB H locs cells slots ls h3 h4 h5 h6 h7 h8
  obtain ⟨hx, hb, hml, hr, hlk, htb, hown, hnm, hts, hS, hRf, hRl, hl⟩ := hE
  obtain ⟨b1, b2, b3⟩ := hB
  have b1 : R.cells + n0 = 601024 := b1
  have b2 : R.slots + k0 = 7293034 := b2
  have h10 := h7.2.2.2
  have h9 := x_wt (G := G) (pc := pc) (m := m) (ls := ls) (st0 := []) hst
  exact va_mabs hx hb (hml.trans (h6.symm.trans h5.1.symm)) hown (hts _ w) (hts _ ws_J9_abs_0f7a4) (hts _ wini_J9) (hts _ wc_J9_abs_0f7a4) (by omega) (by omega) (by omega) (by omega) hd K
end XMATH
