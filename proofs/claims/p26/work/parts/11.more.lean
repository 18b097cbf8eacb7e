/-! rows of AW: Object's constructor, what lies outside the world, arraycopy, rows of rows -/
section RW11
variable {X : XT} {mt : MT} {d kc ks pc : Nat} {ls ls' : List (Nat × Value)} {st : List Value} {h : AH} {Q : Res → AH → Prop}
theorem objI_in : Cond.instanceMethod objectInit ∈ lw_tb2 ∧ Cond.code objectInit ⟨#[0xb1]⟩ 1 none ∈ lw_tb2 := by decide +kernel
theorem a_objInit {idx b : Nat} (hd : decode (mB mt) pc = .ok (.invokespecial idx, 3)) (hl : Cond.methodLink (mN mt).cls idx objectInit ∈ lw_tb2) (hst : (st.map fun v => v.category).sum ≤ 8) (kk : AW X mt (d + 1) kc ks (pc + 3) ls st h Q) : AW X mt (d + 1) kc ks pc ls (.ref b :: st) h Q := by
  intro p l e R s m args below meth c A G cls Z H locs cells slots ad lsA C F D hc hs2 hA
  obtain ⟨hx, hb, hml, hown, hw, -, hls, -, -, -, hK, -, hd1, hd2⟩ := id C
  refine W.objInit hx hb hown (hw _ hl rfl) (hw _ objI_in.1 rfl) (hw _ objI_in.2 rfl) rfl (hA.1.trans hml.symm) rfl hd (by omega) ?_ (W.eq rfl (kk p l e R s m args below meth c A G cls Z H locs cells slots ad lsA C F D hc hs2 hA))
  have := cat_rest (ad := ad) hst
  show 2 * 0 + _ + 12 ≤ R.locals
  omega
-- the script
theorem a_slen (hd : decode (mB mt) pc = .ok (.arraylength, 1)) (kk : AW X mt d kc ks (pc + 1) ls (.int (nI X.1.2.1) :: st) h Q) : AW X mt d kc ks pc ls (.ref 1000 :: st) h Q := by
  intro p l e R s m args below meth c A G cls Z H locs cells slots ad lsA C F D hc hs2 hA
  obtain ⟨hx, hb, hml, hown, hw, -, hls, -, -, -, hK, hE, hd1, hd2⟩ := id C
  obtain ⟨⟨h10, h11, h12⟩, -⟩ := hE.2.2.2.2.2.2.2.2.2
  have g := kk p l e R s m args below meth c A G cls Z H locs cells slots ad lsA C F D hc hs2 hA
  have e1 : cv ad (.ref 1000) = .ref X.1.1 := by simp only [cv, D.2.2.2.2.1]
  rw [List.map_cons, e1]
  exact va_slen hx hb h10 h11 h12 D.2.2.1 hd g
theorem a_sald {i : Int32} {j : Nat} (hd : decode (mB mt) pc = .ok (.iaload, 1)) (hi : i = nI j) (hj : j < X.1.2.1) (hj2 : j < 2 ^ 31) (hL : X.1.2.1 < 2 ^ 31) (kk : AW X mt d kc ks (pc + 1) ls (.int (X.1.2.2 j) :: st) h Q) : AW X mt d kc ks pc ls (.int i :: .ref 1000 :: st) h Q := by
  subst hi
  intro p l e R s m args below meth c A G cls Z H locs cells slots ad lsA C F D hc hs2 hA
  obtain ⟨hx, hb, hml, hown, hw, -, hls, -, -, -, hK, hE, hd1, hd2⟩ := id C
  obtain ⟨⟨h10, h11, h12⟩, -⟩ := hE.2.2.2.2.2.2.2.2.2
  have g := kk p l e R s m args below meth c A G cls Z H locs cells slots ad lsA C F D hc hs2 hA
  have e1 : cv ad (.ref 1000) = .ref X.1.1 := by simp only [cv, D.2.2.2.2.1]
  rw [List.map_cons, List.map_cons, e1]
  exact va_sld hx hb h10 h11 h12 D.2.2.1 (vp_in_nI hj hL) hd (by rw [nI_clamp hj2]; exact g)
-- String constants: .ref (1001 + i), their bytes .ref (1041 + i)
theorem a_ldcS {i idx : Nat} {tx : String} (hd : decode (mB mt) pc = .ok (.ldc idx, 2)) (hz : ((mN mt).cls, idx, tx, i) ∈ zStr) (hi : i < 14) (kk : AW X mt d kc ks (pc + 2) ls (.ref (1001 + i) :: st) h Q) : AW X mt d kc ks pc ls st h Q := by
  intro p l e R s m args below meth c A G cls Z H locs cells slots ad lsA C F D hc hs2 hA
  obtain ⟨hx, hb, hml, hown, hw, -, hls, -, -, -, hK, hE, hd1, hd2⟩ := id C
  have g := kk p l e R s m args below meth c A G cls Z H locs cells slots ad lsA C F D hc hs2 hA
  have e1 : cv ad (.ref (1001 + i)) = .ref (X.2.1 i) := by simp only [cv, D.2.2.2.2.2.1 i hi]
  rw [List.map_cons, e1] at g
  exact va_ldcS hx hb hown (hE.2.2.2.2.2.1 _ hz) hd g
theorem a_strV {i idx : Nat} (hd : decode (mB mt) pc = .ok (.getfield idx, 3)) (hl : Cond.fieldLink (mN mt).cls idx "java/lang/String" "value" "[B" ∈ lw_tb2) (hi : i < 14) (kk : AW X mt d kc ks (pc + 3) ls (.ref (1041 + i) :: st) h Q) : AW X mt d kc ks pc ls (.ref (1001 + i) :: st) h Q := by
  intro p l e R s m args below meth c A G cls Z H locs cells slots ad lsA C F D hc hs2 hA
  obtain ⟨hx, hb, hml, hown, hw, -, hls, -, -, -, hK, hE, hd1, hd2⟩ := id C
  have g := kk p l e R s m args below meth c A G cls Z H locs cells slots ad lsA C F D hc hs2 hA
  have e1 : cv ad (.ref (1001 + i)) = .ref (X.2.1 i) := by simp only [cv, D.2.2.2.2.2.1 i hi]
  have e2 : cv ad (.ref (1041 + i)) = .ref (X.2.2.1 i) := by simp only [cv, D.2.2.2.2.2.2.1 i hi]
  rw [List.map_cons, e2] at g
  rw [List.map_cons, e1]
  exact vk_getf hx hb (hE.2.2.2.2.1.1 i hi).2.2.1 D.2.2.1 hown (hw _ hl rfl) (fun _ q => q) hd g
theorem a_strC {i idx : Nat} (hd : decode (mB mt) pc = .ok (.getfield idx, 3)) (hl : Cond.fieldLink (mN mt).cls idx "java/lang/String" "coder" "B" ∈ lw_tb2) (hi : i < 14) (kk : AW X mt d kc ks (pc + 3) ls (.int 0 :: st) h Q) : AW X mt d kc ks pc ls (.ref (1001 + i) :: st) h Q := by
  intro p l e R s m args below meth c A G cls Z H locs cells slots ad lsA C F D hc hs2 hA
  obtain ⟨hx, hb, hml, hown, hw, -, hls, -, -, -, hK, hE, hd1, hd2⟩ := id C
  have g := kk p l e R s m args below meth c A G cls Z H locs cells slots ad lsA C F D hc hs2 hA
  have e1 : cv ad (.ref (1001 + i)) = .ref (X.2.1 i) := by simp only [cv, D.2.2.2.2.2.1 i hi]
  rw [List.map_cons, e1]
  exact vk_getf hx hb (hE.2.2.2.2.1.1 i hi).2.1 D.2.2.1 hown (hw _ hl rfl) (fun _ q => q) hd g
theorem a_strL {i : Nat} (hd : decode (mB mt) pc = .ok (.arraylength, 1)) (hi : i < 14) (kk : AW X mt d kc ks (pc + 1) ls (.int (nI (zLen.getD i 0)) :: st) h Q) : AW X mt d kc ks pc ls (.ref (1041 + i) :: st) h Q := by
  intro p l e R s m args below meth c A G cls Z H locs cells slots ad lsA C F D hc hs2 hA
  obtain ⟨hx, hb, hml, hown, hw, -, hls, -, -, -, hK, hE, hd1, hd2⟩ := id C
  have g := kk p l e R s m args below meth c A G cls Z H locs cells slots ad lsA C F D hc hs2 hA
  have e2 : cv ad (.ref (1041 + i)) = .ref (X.2.2.1 i) := by simp only [cv, D.2.2.2.2.2.2.1 i hi]
  rw [List.map_cons, e2]
  exact va_tlen hx hb (hE.2.2.2.2.1.1 i hi).2.2.2 D.2.2.1 rfl hd g
theorem a_strB {i j : Nat} (hd : decode (mB mt) pc = .ok (.baload, 1)) (hi : i < 14) (hj : j < zLen.getD i 0) (hj2 : zLen.getD i 0 < 2 ^ 31) (kk : AW X mt d kc ks (pc + 1) ls (.int ((zByt.getD i []).getD j 0) :: st) h Q) : AW X mt d kc ks pc ls (.int (nI j) :: .ref (1041 + i) :: st) h Q := by
  intro p l e R s m args below meth c A G cls Z H locs cells slots ad lsA C F D hc hs2 hA
  obtain ⟨hx, hb, hml, hown, hw, -, hls, -, -, -, hK, hE, hd1, hd2⟩ := id C
  have g := kk p l e R s m args below meth c A G cls Z H locs cells slots ad lsA C F D hc hs2 hA
  have e2 : cv ad (.ref (1041 + i)) = .ref (X.2.2.1 i) := by simp only [cv, D.2.2.2.2.2.2.1 i hi]
  rw [List.map_cons, List.map_cons, e2]
  exact va_tb hx hb (hE.2.2.2.2.1.1 i hi).2.2.2 D.2.2.1 (vp_in_nI hj hj2) (v := .int ((zByt.getD i []).getD j 0)) (by rw [nI_clamp (by omega)]) hd g
theorem a_getCS {idx : Nat} (hd : decode (mB mt) pc = .ok (.getstatic idx, 3)) (hl : Cond.fieldLink (mN mt).cls idx "java/lang/String" "COMPACT_STRINGS" "Z" ∈ lw_tb2) (kk : AW X mt d kc ks (pc + 3) ls (.int 1 :: st) h Q) : AW X mt d kc ks pc ls st h Q := by
  intro p l e R s m args below meth c A G cls Z H locs cells slots ad lsA C F D hc hs2 hA
  obtain ⟨hx, hb, hml, hown, hw, -, hls, -, -, -, hK, hE, hd1, hd2⟩ := id C
  exact va_gets hx hb hE.2.2.2.2.2.2.1 D.2.2.1 hown (hw _ hl rfl) (fun _ q => q) hd (kk p l e R s m args below meth c A G cls Z H locs cells slots ad lsA C F D hc hs2 hA)
theorem a_getSF {idx : Nat} (hd : decode (mB mt) pc = .ok (.getstatic idx, 3)) (hl : Cond.fieldLink (mN mt).cls idx zF1 zF2 zF3 ∈ lw_tb2) (k1 : AW X mt d kc ks (pc + 3) ls (.null :: st) h Q) (k2 : AW X mt d kc ks (pc + 3) ls (.ref 1020 :: st) h Q) : AW X mt d kc ks pc ls st h Q := by
  intro p l e R s m args below meth c A G cls Z H locs cells slots ad lsA C F D hc hs2 hA
  obtain ⟨hx, hb, hml, hown, hw, -, hls, -, -, -, hK, hE, hd1, hd2⟩ := id C
  rcases hE.2.2.2.2.2.2.2.2.2.2 with hz | hz
  · exact va_gets hx hb hz D.2.2.1 hown (hw _ hl rfl) (fun _ q => q) hd (k1 p l e R s m args below meth c A G cls Z H locs cells slots ad lsA C F D hc hs2 hA)
  · have g := k2 p l e R s m args below meth c A G cls Z H locs cells slots ad lsA C F D hc hs2 hA
    have e1 : cv ad (.ref 1020) = .ref X.2.2.2.1 := by simp only [cv, D.2.2.2.2.2.2.2]
    rw [List.map_cons, e1] at g
    exact va_gets hx hb hz D.2.2.1 hown (hw _ hl rfl) (fun _ q => q) hd g
/-- a method of a String constant -/
theorem a_callVs {mt' : MT} {idx n i : Nat} {as stk : List Value} {Q' : Res → AH → Prop} (hd : decode (mB mt) pc = .ok (.invokevirtual idx, 3)) (hl : Cond.methodLink (mN mt).cls idx (mN mt') ∈ lw_tb2 ∧ Cond.instanceMethod (mN mt') ∈ lw_tb2 ∧ Cond.selects "java/lang/String" (mN mt') (mN mt') ∈ lw_tb2) (hce : CE mt' n) (hi : i < 14) (hc' : AC mt' d 0 0 (.ref (1001 + i) :: as) h Q') (hn : as.length = n) (hstk : stk = as.reverse ++ .ref (1001 + i) :: st) (hst : (st.map fun v => v.category).sum ≤ 8)
    (hnt : ∀ E h', ¬ Q' (.inr E) h') (hok : ∀ v h', Q' (.inl v) h' → hN h' = hN h) (kk : ∀ v h', Q' (.inl v) h' → AW X mt (d + 1) kc ks (pc + 3) ls (v.toList ++ st) h' Q) : AW X mt (d + 1) kc ks pc ls stk h Q := by
  subst hstk
  intro p l e R s m args below meth c A G cls Z H locs cells slots ad lsA C F D hc hs2 hA
  obtain ⟨hx, hb2, hml, hown, hw, -, hls, -, -, -, hK, hE, hd1, hd2⟩ := id C
  have ht : ∀ w ∈ lw_tb2.filter goodWord, w.before args s = true := fun w q => hw w (List.mem_filter.mp q).1 (List.mem_filter.mp q).2
  have cw : CallB R s args (mN mt).cls idx (mN mt') (mB mt') (mL mt') (mR mt') (wsM mt') (rmM d 0 0) 0 0 n := callB_of n ht (wsM_good hce) rfl rfl rfl (hw _ hce.1.2 rfl) (hw _ hl.1 rfl) hce.2.1 ⟨by show d + 1 ≤ _; exact hd1, by show 8 + (mL mt' + 11) + 40 * d ≤ _; have := hce.2.2; omega⟩
  have hrecv := vk_recv hE.2.2.2.2.1 hi D.2.2.1
  rw [← D.2.2.2.2.2.1 i hi] at hrecv
  obtain ⟨q1, q2⟩ := pre_call C D ((Value.ref (1001 + i) :: as).map (cv ad))
  refine w_after (st := st) (mc := 0) (ms := 0) (Q' := Q') (a := ((Value.ref (1001 + i) :: as).map (cv ad)).toArray) ?_ C F D hc hs2 hA hnt (Or.inl hok) kk
  exact vx_runV (C := "java/lang/String") (b := ad (1001 + i)) (As := as.map (cv ad)) (rest := st.map (cv ad)) ⟨hx, hb2, hml, hown, ht⟩ (hc' X l hls G cls ad H.size D.2.2.2.1 D.2.2.2.2) ⟨cw, hw _ hl.2.1 rfl, hw _ hl.2.2 rfl⟩ ⟨q1, hrecv, q2⟩ rfl (by rw [List.length_map]; exact hn) (hA.1) (by simp [cv]) (lv_room (cat_rest hst)) hd ⟨by omega, by omega⟩
-- System.arraycopy, of ints and of bytes
theorem acp_in : Cond.native arraycopyName ∈ lw_tb2 ∧ Cond.static arraycopyName ∈ lw_tb2 ∧ Cond.initialized "java/lang/System" ∈ lw_tb2 := by decide +kernel
theorem g_copy {a b n1 n2 t idx sp dp n : Nat} {i1 i2 i3 : Int32} (hd : decode (mB mt) pc = .ok (.invokestatic idx, 3)) (hl : Cond.methodLink (mN mt).cls idx arraycopyName ∈ lw_tb2) (hsa : kdA a = some (.inr (t, n1))) (hsb : kdA b = some (.inr (t, n2))) (ht : t ≤ 1) (ha : prN (hN h) a) (hb : prN (hN h) b) (hi1 : i1 = nI sp) (hi2 : i2 = nI dp) (hi3 : i3 = nI n) (h4 : sp + n ≤ n1) (h5 : dp + n ≤ n2) (hfit : t = 1 → ∀ i, i < n → fits .byte (.int (hI h a (sp + i))) = true) (hst : (st.map fun v => v.category).sum ≤ 8)
    (kk : AW X mt (d + 1) kc ks (pc + 3) ls st (rI h b (va_cpy (hI h a) (hI h b) sp dp n)) Q) : AW X mt (d + 1) kc ks pc ls (.int i3 :: .int i2 :: .ref b :: .int i1 :: .ref a :: st) h Q := by
  subst hi1; subst hi2; subst hi3
  intro p l e R s m args below meth c A G cls Z H locs cells slots ad lsA C F D hc hs2 hA
  obtain ⟨hx, hb2, hml, hown, hw, -, hls, -, -, -, hK, hE, hd1, hd2⟩ := id C
  have l1 := (kdA_len hsa).2
  have l2 := (kdA_len hsb).2
  obtain ⟨ia, hia, hga⟩ := wld_at (cls := cls) (ad := ad) ha
  obtain ⟨ib, hib, hgb⟩ := wld_at (cls := cls) (ad := ad) hb
  have hga : (wld cls ad h)[ia]? = some (ad a, .inl (cls t, n1, .inl (hI h a))) := by
    rw [hga, ce_arr hsa]; unfold aC; rw [if_pos (by omega)]
  have hgb : (wld cls ad h)[ib]? = some (ad b, .inl (cls t, n2, .inl (hI h b))) := by
    rw [hgb, ce_arr hsb]; unfold aC; rw [if_pos (by omega)]
  have hset : (wld cls ad h).set ib (ad b, .inl (cls t, n2, .inl (va_cpy (hI h a) (hI h b) sp dp n))) = wld cls ad (rI h b (va_cpy (hI h a) (hI h b) sp dp n)) := by
    refine wld_set hib D.2.2.2.1 hN_rI (fun q z => ce_congr (upr_row z) rfl (fun _ => rfl)) ?_
    rw [ce_arr hsb]
    have e : hI (rI h b (va_cpy (hI h a) (hI h b) sp dp n)) b = va_cpy (hI h a) (hI h b) sp dp n := if_pos rfl
    unfold aC
    rw [if_pos (by omega), e]
  have c1 : (nI sp).toNatClampNeg = sp := nI_clamp (by omega)
  have c2 : (nI dp).toNatClampNeg = dp := nI_clamp (by omega)
  have c3 : (nI n).toNatClampNeg = n := nI_clamp (by omega)
  have hcat := cat_rest (ad := ad) hst
  have go : ∀ (H1 : Heap) (locs1 : List Loc), va_P G vwCl ((wld cls ad h).set ib (ad b, .inl (cls t, n2, .inl (va_cpy (hI h a) (hI h b) (nI sp).toNatClampNeg (nI dp).toNatClampNeg (nI n).toNatClampNeg)))) H1 → va_D A ((wld cls ad h).set ib (ad b, .inl (cls t, n2, .inl (va_cpy (hI h a) (hI h b) (nI sp).toNatClampNeg (nI dp).toNatClampNeg (nI n).toNatClampNeg)))) → va_S A s.heap H1 locs1 → W p l e R s m args below meth c H1 locs1 cells slots Z (F0 m (pc + 3) lsA (st.map (cv ad))) := by
    intro H1 locs1 z1 z2 z3
    rw [c1, c2, c3, hset] at z1 z2
    exact kk p l e R s m args below meth c A G cls Z H1 locs1 cells slots ad lsA C F ⟨z1, z2, z3, wfh_rI D.2.2.2.1, D.2.2.2.2⟩ hc hs2 hA
  have hwords : nativeFrameWords "java/lang/System" "arraycopy" 5 + 11 ≤ 32 := by decide
  rcases (by omega : t = 0 ∨ t = 1) with rfl | rfl
  · exact va_copyi hx hb2 (hml.trans hA.1.symm) hown (hw _ hl rfl) (hw _ acp_in.1 rfl) (hw _ acp_in.2.1 rfl) (hw _ acp_in.2.2 rfl) hK D.1 D.2.1 D.2.2.1 ia ib 0 0 (ty := .int) hga hgb rfl rfl rfl (nI_pos (by omega)) (nI_pos (by omega)) (nI_pos (by omega)) (by rw [c1, c3]; exact h4) (by rw [c2, c3]; exact h5) (fun _ _ => rfl) (by omega) (by omega) hd go
  · exact va_copyi hx hb2 (hml.trans hA.1.symm) hown (hw _ hl rfl) (hw _ acp_in.1 rfl) (hw _ acp_in.2.1 rfl) (hw _ acp_in.2.2 rfl) hK D.1 D.2.1 D.2.2.1 ia ib 1 1 (ty := .byte) hga hgb rfl rfl rfl (nI_pos (by omega)) (nI_pos (by omega)) (nI_pos (by omega)) (by rw [c1, c3]; exact h4) (by rw [c2, c3]; exact h5) (fun i hi => by rw [c1]; exact hfit rfl i (by rw [c3] at hi; exact hi)) (by omega) (by omega) hd go
theorem a_copy {a b n1 n2 t idx sp dp n : Nat} {i1 i2 i3 : Int32} (hd : decode (mB mt) pc = .ok (.invokestatic idx, 3)) (hl : Cond.methodLink (mN mt).cls idx arraycopyName ∈ lw_tb2) (hsa : shK a = some (.inr (t, n1))) (hsb : shK b = some (.inr (t, n2))) (ht : t ≤ 1) (ha : a < hN h) (hb : b < hN h) (hi1 : i1 = nI sp) (hi2 : i2 = nI dp) (hi3 : i3 = nI n) (h4 : sp + n ≤ n1) (h5 : dp + n ≤ n2) (hfit : t = 1 → ∀ i, i < n → fits .byte (.int (hI h a (sp + i))) = true) (hst : (st.map fun v => v.category).sum ≤ 8)
    (kk : AW X mt (d + 1) kc ks (pc + 3) ls st (rI h b (va_cpy (hI h a) (hI h b) sp dp n)) Q) : AW X mt (d + 1) kc ks pc ls (.int i3 :: .int i2 :: .ref b :: .int i1 :: .ref a :: st) h Q := g_copy hd hl (kdA_sh hsa) (kdA_sh hsb) ht (pr_sh hsa ha) (pr_sh hsb hb) hi1 hi2 hi3 h4 h5 hfit hst kk

-- objects of the JDK: methods of a class above, super, a String constant into a row, clone
/-- the words of a call of a method that the receiver's class inherits or overrides -/
def UW (mt : MT) (idx ci n : Nat) (x : MethodName) (mt' : MT) : Prop := ((Cond.methodLink (mN mt).cls idx x ∈ lw_tb2 ∧ Cond.sameMethod x.cls x.cls x.name x.desc ∈ lw_tb2) ∧ Cond.instanceMethod (mN mt') ∈ lw_tb2 ∧ Cond.instanceMethod x ∈ lw_tb2) ∧ (∃ b m r, Cond.code x b m r ∈ lw_tb2) ∧ (x.cls ≠ "java/lang/invoke/MethodHandle" ∧ x.cls ≠ "java/lang/invoke/VarHandle" ∧ (parseMethodDescriptor x.desc).map (fun d => d.parameters.length) = some n) ∧ ∀ (args : Array Value) (s : State), (∀ w, w ∈ lw_tb2 → goodWord w = true → w.before args s = true) → (Cond.selects (cR ci) x (mN mt')).before args s = true
theorem g_callU {mt' : MT} {x : MethodName} {idx n mc ms b ci : Nat} {as stk : List Value} {Q' : Res → AH → Prop} (hd : decode (mB mt) pc = .ok (.invokevirtual idx, 3)) (hl : UW mt idx ci n x mt') (hce : CE mt' n) (hs : kdA b = some (.inl ci)) (hb : prN (hN h) b) (hc' : AC mt' d mc ms (.ref b :: as) h Q') (hn : as.length = n) (hstk : stk = as.reverse ++ .ref b :: st) (hst : (st.map fun v => v.category).sum ≤ 8)
    (hnt : ∀ E h', ¬ Q' (.inr E) h') (hok : (∀ v h', Q' (.inl v) h' → hN h' = hN h) ∨ ((∀ q ∈ ls, okd (hN h) q.2) ∧ ∀ v ∈ st, okd (hN h) v)) (kk : ∀ v h', Q' (.inl v) h' → AW X mt (d + 1) kc ks (pc + 3) ls (v.toList ++ st) h' Q) : AW X mt (d + 1) (kc + mc) (ks + ms) pc ls stk h Q := by
  subst hstk
  intro p l e R s m args below meth c A G cls Z H locs cells slots ad lsA C F D hc hs2 hA
  obtain ⟨hx, hb2, hml, hown, hw, -, hls, -, -, -, hK, -, hd1, hd2⟩ := id C
  have ht : ∀ w ∈ lw_tb2.filter goodWord, w.before args s = true := fun w q => hw w (List.mem_filter.mp q).1 (List.mem_filter.mp q).2
  obtain ⟨⟨⟨l1, l2⟩, l3, l4⟩, ⟨b0, m0, r0, l5⟩, l6, l7⟩ := hl
  have hG := wsM_good hce
  have hc9 : Cond.code (mN mt') (mB mt') (mL mt') (mR mt') ∈ wsM mt' := List.mem_cons_self
  have cw : va_CU R s args (mN mt).cls (cR ci) x.cls idx x (mN mt') (mB mt') (mL mt') (mR mt') (wsM mt') (rmM d mc ms) mc ms n :=
    ⟨⟨rfl, rfl, by show d + 1 ≤ _; exact hd1, by show 8 + (mL mt' + 11) + 40 * d ≤ _; have := hce.2.2; omega, pay_in ht hG, hc9⟩, ht _ (hG _ hc9).1, hw _ hce.1.2 rfl, ⟨l6.1, l6.2.1⟩, fun sig q => by
      have h2 := l6.2.2
      rw [q] at h2
      exact (Option.some.inj h2).symm, hw _ l1 rfl, hw _ l2 rfl, va_Decl.of (hw _ l4 rfl) (hw _ l5 rfl), l7 args s hw, hw _ l3 rfl⟩
  obtain ⟨ib, hib, hgb⟩ := wld_at (cls := cls) (ad := ad) hb
  have hrecv := va_recv (q := (cR ci, cT ci, nF ci)) hK D.1 (vwCl_at (kdA_ci hs)) (by rw [hgb, ce_obj hs])
  obtain ⟨q1, q2⟩ := pre_call C D ((Value.ref b :: as).map (cv ad))
  refine w_after (st := st) (mc := mc) (ms := ms) (Q' := Q') (a := ((Value.ref b :: as).map (cv ad)).toArray) ?_ C F D hc hs2 hA hnt hok kk
  exact vx_runU (C := cR ci) (b := ad b) (As := as.map (cv ad)) (rest := st.map (cv ad)) ⟨hx, hb2, hml, hown, ht⟩ (hc' X l hls G cls ad H.size D.2.2.2.1 D.2.2.2.2) cw ⟨q1, hrecv, q2⟩ rfl (by rw [List.length_map]; exact hn) (hA.1) (by simp [cv]) (lv_room (cat_rest hst)) hd ⟨by omega, by omega⟩
theorem g_callSU {mt' : MT} {idx n mc ms b ci : Nat} {as stk : List Value} {Q' : Res → AH → Prop} (hd : decode (mB mt) pc = .ok (.invokespecial idx, 3)) (hl : (Cond.methodLink (mN mt).cls idx (mN mt') ∈ lw_tb2 ∧ Cond.sameMethod (mN mt').cls (mN mt').cls (mN mt').name (mN mt').desc ∈ lw_tb2) ∧ Cond.instanceMethod (mN mt') ∈ lw_tb2 ∧ Cond.superclass (mN mt).cls (mN mt').cls ∈ lw_tb2) (hni : (mN mt').name ≠ "<init>") (hce : CE mt' n) (hs : kdA b = some (.inl ci)) (hb : prN (hN h) b) (hc' : AC mt' d mc ms (.ref b :: as) h Q') (hn : as.length = n) (hstk : stk = as.reverse ++ .ref b :: st) (hst : (st.map fun v => v.category).sum ≤ 8)
    (hnt : ∀ E h', ¬ Q' (.inr E) h') (hok : (∀ v h', Q' (.inl v) h' → hN h' = hN h) ∨ ((∀ q ∈ ls, okd (hN h) q.2) ∧ ∀ v ∈ st, okd (hN h) v)) (kk : ∀ v h', Q' (.inl v) h' → AW X mt (d + 1) kc ks (pc + 3) ls (v.toList ++ st) h' Q) : AW X mt (d + 1) (kc + mc) (ks + ms) pc ls stk h Q := by
  subst hstk
  intro p l e R s m args below meth c A G cls Z H locs cells slots ad lsA C F D hc hs2 hA
  obtain ⟨hx, hb2, hml, hown, hw, -, hls, -, -, -, hK, -, hd1, hd2⟩ := id C
  have ht : ∀ w ∈ lw_tb2.filter goodWord, w.before args s = true := fun w q => hw w (List.mem_filter.mp q).1 (List.mem_filter.mp q).2
  have hT : GoodIn (lw_tb2.filter goodWord) (va_wsSU (mN mt).cls idx (mN mt') (wsM mt')) := by
    intro w hw2
    rcases List.mem_append.mp hw2 with hw2 | hw2
    · have h1 : w ∈ lw_tb2 ∧ goodWord w = true := by
        simp only [List.mem_cons, List.not_mem_nil, or_false] at hw2
        rcases hw2 with rfl | rfl | rfl | rfl | rfl
        · exact ⟨hl.1.1, rfl⟩
        · exact ⟨hl.1.2, rfl⟩
        · exact ⟨hl.2.2, rfl⟩
        · exact ⟨hl.2.1, rfl⟩
        · exact ⟨hce.1.2, rfl⟩
      exact ⟨gw_mem h1.1 h1.2, good_of_word h1.2⟩
    · exact wsM_good hce w hw2
  have cw : va_CS R s args (mN mt).cls idx (mN mt') (mB mt') (mL mt') (mR mt') (wsM mt') (rmM d mc ms) mc ms n := va_cwSU n ht hT rfl rfl rfl ⟨hni, hce.2.1.2.2⟩ ⟨by show d + 1 ≤ _; exact hd1, by show 8 + (mL mt' + 11) + 40 * d ≤ _; have := hce.2.2; omega⟩
  obtain ⟨ib, hib, hgb⟩ := wld_at (cls := cls) (ad := ad) hb
  have hrecv := va_recv (q := (cR ci, cT ci, nF ci)) hK D.1 (vwCl_at (kdA_ci hs)) (by rw [hgb, ce_obj hs])
  obtain ⟨q1, q2⟩ := pre_call C D ((Value.ref b :: as).map (cv ad))
  refine w_after (st := st) (mc := mc) (ms := ms) (Q' := Q') (a := ((Value.ref b :: as).map (cv ad)).toArray) ?_ C F D hc hs2 hA hnt hok kk
  exact vx_runSU (C := cR ci) (b := ad b) (As := as.map (cv ad)) (rest := st.map (cv ad)) (hK.1 ci _ (vwCl_at (kdA_ci hs))).2 ⟨hx, hb2, hml, hown, ht⟩ (hc' X l hls G cls ad H.size D.2.2.2.1 D.2.2.2.2) cw ⟨q1, hrecv, q2⟩ rfl (by rw [List.length_map]; exact hn) (hA.1) (by simp [cv]) (lv_room (cat_rest hst)) hd ⟨by omega, by omega⟩
theorem g_aastx {a n j i0 : Nat} {i : Int32} (hd : decode (mB mt) pc = .ok (.aastore, 1)) (hs : kdA a = some (.inr (6, n))) (ha : prN (hN h) a) (hi : i = nI j) (hj : j < n) (h14 : i0 < 14) (kk : AW X mt d kc ks (pc + 1) ls st (sR h a j (some (1001 + i0))) Q) : AW X mt d kc ks pc ls (.ref (1001 + i0) :: .int i :: .ref a :: st) h Q := by
  subst hi
  intro p l e R s m args below meth c A G cls Z H locs cells slots ad lsA C F D hc hs2 hA
  obtain ⟨hx, hb2, hml, hown, hw, -, hls, -, -, -, hK, hE, hd1, hd2⟩ := id C
  obtain ⟨ia, hia, hga⟩ := wld_at (cls := cls) (ad := ad) ha
  obtain ⟨q1, q2⟩ := nI_i hj (kdA_len hs).2
  have hset := set_R (cls := cls) (ad := ad) (j := j) (v := some (1001 + i0)) hs (by omega) hia D.2.2.2.1
  have hany : va_Any "java/lang/String" s H (ad (1001 + i0)) := by
    obtain ⟨cell, g1, g2, g3⟩ := vk_recv hE.2.2.2.2.1 h14 D.2.2.1
    obtain ⟨kC, g4, -⟩ := Vm.findClass_spec g3
    rw [D.2.2.2.2.2.1 i0 h14]
    exact ⟨cell, g1, g2, ⟨kC, g4⟩, fun comp g5 => by cases g3.symm.trans g5; exact va_asg _ _⟩
  refine va_astqM C.1 C.2.1 hK D.1 D.2.1 D.2.2.1 ia 6 (E := "java/lang/String") (f := fun j => (hR h a j).map ad) (by rw [hga, ce_arr hs, aC_ref (by omega)]) rfl hany q1 hd (fun H1 locs1 z1 z2 z3 => ?_)
  rw [q2] at z1 z2
  rw [show some (ad (1001 + i0)) = (some (1001 + i0)).map ad from rfl, hset] at z1 z2
  exact kk p l e R s m args below meth c A G cls Z H1 locs1 cells slots ad lsA C F ⟨z1, z2, z3, wfh_sRx (Or.inr (by unfold ext; omega)) D.2.2.2.1, D.2.2.2.2⟩ hc hs2 hA
theorem clz_in : Cond.sameMethod "[Z" "java/lang/Object" "clone" "()Ljava/lang/Object;" ∈ lw_tb2 ∧ Cond.native ⟨"java/lang/Object", "clone", "()Ljava/lang/Object;"⟩ ∈ lw_tb2 ∧ Cond.instanceMethod ⟨"java/lang/Object", "clone", "()Ljava/lang/Object;"⟩ ∈ lw_tb2 ∧ Cond.selects "[Z" ⟨"[Z", "clone", "()Ljava/lang/Object;"⟩ ⟨"java/lang/Object", "clone", "()Ljava/lang/Object;"⟩ ∈ lw_tb2 ∧ Cond.castable "[Z" "java/lang/Cloneable" ∈ tables_1 := by decide +kernel
/-- clone of a boolean[] -/
theorem d_clone {n a b k idx : Nat} (hd : decode (mB mt) pc = .ok (.invokevirtual idx, 3)) (hl : Cond.methodLink (mN mt).cls idx ⟨"[Z", "clone", "()Ljava/lang/Object;"⟩ ∈ lw_tb2) (hn9 : n < 64) (hn : newC (hN h) b k (qA 2 n)) (hs : kdA a = some (.inr (2, n))) (ha : prN (hN h) a) (hfit : ∀ j, j < n → fits .boolean (.int (hI h a j)) = true) (hst : (st.map fun v => v.category).sum ≤ 8) (hok1 : ∀ q ∈ ls, okd (hN h) q.2) (hok2 : ∀ v ∈ st, okd (hN h) v)
    (kk : AW X mt (d + 1) kc ks (pc + 3) ls (.ref b :: st) (rI (nwD h b) b (hI h a)) Q) : AW X mt (d + 1) (kc + 1) (ks + n) pc ls (.ref a :: st) h Q := by
  intro p l e R s m args below meth c A G cls Z H locs cells slots ad lsA C F D hc hs2 hA
  obtain ⟨hx, hb, hml, hown, hw, -, -, -, -, hAs, hK, hE, hd1, hd2⟩ := id C
  have hno := hn.no D.2.2.2.1.1
  have hsb : kdA b = some (.inr (2, n)) := by rw [hn.2.1]; exact kdA_a (by omega) hn9
  obtain ⟨ia, hia, hga⟩ := wld_at (cls := cls) (ad := ad) ha
  have hga2 : (wld cls ad h)[ia]? = some (ad a, .inl (cls 2, n, .inl (hI h a))) := by rw [hga, ce_arr hs]; rfl
  have hcat := cat_rest (ad := ad) hst
  refine va_clone hx hb (hml.trans hA.1.symm) hown (hw _ hl rfl) (hw _ clz_in.1 rfl) (hw _ clz_in.2.1 rfl) (hw _ clz_in.2.2.1 rfl) (hw _ clz_in.2.2.2.1 rfl) (hE.1 _ clz_in.2.2.2.2 rfl) hK D.1 D.2.1 D.2.2.1 hAs ia 2 (x := (n, .inl (hI h a))) (ty := .boolean) hga2 rfl ?_ (fun i v hi => ?_) (by omega) (by omega) (by omega) (by show slots + n ≤ _; omega) hd (fun q H1 zK z1 z2 z3 => ?_)
  · exact (hK.2 2 _ rfl).2
  · rw [vp_cell_i] at hi
    have hlt : i < n := by
      have := (Array.getElem?_eq_some_iff.mp hi).1
      simpa [arrV] using this
    have e : v = .int (hI h a i) := by
      simp [arrV, hlt] at hi
      exact hi.symm
    rw [e]
    exact hfit i hlt
  · have hext : ∀ a, a ≠ b → va_up ad b q a = ad a := fun a ha => up_ne ha
    have hext9 : ∀ a, (prN (hN h) a ∨ ext a) → va_up ad b q a = ad a := fun a ha => up_ne (fun z => by subst z; exact ha.elim hno.1 hno.2)
    have hold : ∀ c, c ≠ b → hI (rI (nwD h b) b (hI h a)) c = hI h c ∧ hL (rI (nwD h b) b (hI h a)) c = hL h c ∧ hR (rI (nwD h b) b (hI h a)) c = hR h c := fun c hc => ⟨(if_neg hc).trans (nwD_old hc).1, (nwD_old hc).2.1, (nwD_old hc).2.2⟩
    have hwld : wld cls (va_up ad b q) (rI (nwD h b) b (hI h a)) = wld cls ad h ++ [(q, .inl (cls 2, n, .inl (hI h a)))] := by
      rw [wld_ext (h := h) (h' := rI (nwD h b) b (hI h a)) (hC_adn hn.1) (fun c hc => ce_old (h' := rI (nwD h b) b (hI h a)) D.2.2.2.1 hno hold hext hc), List.map_cons, List.map_nil]
      congr 2
      rw [up_eq, ce_arr hsb]
      have e : hI (rI (nwD h b) b (hI h a)) b = hI h a := if_pos rfl
      simp [aC, e]
    have g := kk p l e R s m args below meth c A G cls Z H1 locs (cells + 1) (slots + n) (va_up ad b q) lsA C (F.dy hn.1 hno.1 hext) ⟨by rw [hwld]; exact z1, by rw [hwld]; exact z2, z3, wfh_D D.2.2.2.1 hn rfl (fun c hc => (hold c hc).2.2) (fun j c e => by rw [show hR (rI (nwD h b) b (hI h a)) b = hR (nwD h b) b from rfl, nwD_row.2.2] at e; cases e), adOK_upx (fun a ha => hext9 a (Or.inr ha)) D.2.2.2.2⟩ (by omega) (by omega) (by rw [map_okdl hext9 hok1]; exact hA)
    rw [List.map_cons, map_okd hext9 hok2] at g
    have e : cv (va_up ad b q) (.ref b) = .ref q := by simp only [cv, up_eq]
    rw [e] at g
    exact g
theorem g_castZ {n a idx : Nat} (hd : decode (mB mt) pc = .ok (.checkcast idx, 3)) (hl : Cond.classLink (mN mt).cls idx "[Z" ∈ lw_tb2) (hs : kdA a = some (.inr (2, n))) (ha : prN (hN h) a) (kk : AW X mt d kc ks (pc + 3) ls (.ref a :: st) h Q) : AW X mt d kc ks pc ls (.ref a :: st) h Q := by
  intro p l e R s m args below meth c A G cls Z H locs cells slots ad lsA C F D hc hs2 hA
  obtain ⟨hx, hb, hml, hown, hw, -, -, -, -, hAs, hK, hE, hd1, hd2⟩ := id C
  obtain ⟨ia, hia, hga⟩ := wld_at (cls := cls) (ad := ad) ha
  exact va_castA hx hb hown (hw _ hl rfl) D.1 ia (x := aC ad h a 2 n) (by rw [hga, ce_arr hs]) (hK.2 2 _ rfl).2 hd (kk p l e R s m args below meth c A G cls Z H locs cells slots ad lsA C F D hc hs2 hA)
end RW11
