/-! rows of AW: Object's constructor, what lies outside the world, arraycopy, rows of rows -/
section RW11
variable {X : XT} {mt : MT} {d kc ks pc : Nat} {ls ls' : List (Nat × Value)} {st : List Value} {h : AH} {Q : Res → AH → Prop}
theorem objI_in : Cond.instanceMethod objectInit ∈ lw_tbl ∧ Cond.code objectInit ⟨#[0xb1]⟩ 1 none ∈ lw_tbl := by decide +kernel
theorem a_objInit {idx b : Nat} (hd : decode (mB mt) pc = .ok (.invokespecial idx, 3)) (hl : Cond.methodLink (mN mt).cls idx objectInit ∈ lw_tbl) (hst : (st.map fun v => v.category).sum ≤ 8) (kk : AW X mt (d + 1) kc ks (pc + 3) ls st h Q) : AW X mt (d + 1) kc ks pc ls (.ref b :: st) h Q := by
  intro p l e R s m args below meth c A G cls Z H locs cells slots ad lsA C F D hc hs2 hA
  obtain ⟨hx, hb, hml, hown, hw, -, hls, -, -, -, hK, -, hd1, hd2⟩ := id C
  refine W.objInit hx hb hown (hw _ hl rfl) (hw _ objI_in.1 rfl) (hw _ objI_in.2 rfl) rfl (hA.1.trans hml.symm) rfl hd (by omega) ?_ (W.eq rfl (kk p l e R s m args below meth c A G cls Z H locs cells slots ad lsA C F D hc hs2 hA))
  have := cat_rest (ad := ad) hst
  show 2 * 0 + _ + 12 ≤ R.locals
  omega
-- the script
theorem a_slen (hd : decode (mB mt) pc = .ok (.arraylength, 1)) (kk : AW X mt d kc ks (pc + 1) ls (.int (nI X.1.2.1) :: st) h Q) : AW X mt d kc ks pc ls (.ref 1000 :: st) h Q := by
  intro p l e R s m args below meth c A G cls Z H locs cells slots ad lsA C F D hc hs2 hA
  obtain ⟨hx, hb, hml, hown, hw, -, hls, -, -, -, hK, hE, hd1, hd2⟩ := id C
  obtain ⟨⟨h10, h11, h12⟩, -⟩ := hE.2.2.2.2.2.2.2.2.2
  have g := kk p l e R s m args below meth c A G cls Z H locs cells slots ad lsA C F D hc hs2 hA
  have e1 : cv ad (.ref 1000) = .ref X.1.1 := by simp only [cv, D.2.2.2.2.1]
  rw [List.map_cons, e1]
  exact va_slen hx hb h10 h11 h12 D.2.2.1 hd g
theorem a_sald {i : Int32} {j : Nat} (hd : decode (mB mt) pc = .ok (.iaload, 1)) (hi : i = nI j) (hj : j < X.1.2.1) (hj2 : j < 2 ^ 31) (hL : X.1.2.1 < 2 ^ 31) (kk : AW X mt d kc ks (pc + 1) ls (.int (X.1.2.2 j) :: st) h Q) : AW X mt d kc ks pc ls (.int i :: .ref 1000 :: st) h Q := by
  subst hi
  intro p l e R s m args below meth c A G cls Z H locs cells slots ad lsA C F D hc hs2 hA
  obtain ⟨hx, hb, hml, hown, hw, -, hls, -, -, -, hK, hE, hd1, hd2⟩ := id C
  obtain ⟨⟨h10, h11, h12⟩, -⟩ := hE.2.2.2.2.2.2.2.2.2
  have g := kk p l e R s m args below meth c A G cls Z H locs cells slots ad lsA C F D hc hs2 hA
  have e1 : cv ad (.ref 1000) = .ref X.1.1 := by simp only [cv, D.2.2.2.2.1]
  rw [List.map_cons, List.map_cons, e1]
  exact va_sld hx hb h10 h11 h12 D.2.2.1 (vp_in_nI hj hL) hd (by rw [nI_clamp hj2]; exact g)
-- String constants: .ref (1001 + i), their bytes .ref (1011 + i)
theorem a_ldcS {i idx : Nat} {tx : String} (hd : decode (mB mt) pc = .ok (.ldc idx, 2)) (hz : ((mN mt).cls, idx, tx, i) ∈ zStr) (hi : i < 5) (kk : AW X mt d kc ks (pc + 2) ls (.ref (1001 + i) :: st) h Q) : AW X mt d kc ks pc ls st h Q := by
  intro p l e R s m args below meth c A G cls Z H locs cells slots ad lsA C F D hc hs2 hA
  obtain ⟨hx, hb, hml, hown, hw, -, hls, -, -, -, hK, hE, hd1, hd2⟩ := id C
  have g := kk p l e R s m args below meth c A G cls Z H locs cells slots ad lsA C F D hc hs2 hA
  have e1 : cv ad (.ref (1001 + i)) = .ref (X.2.1 i) := by simp only [cv, D.2.2.2.2.2.1 i hi]
  rw [List.map_cons, e1] at g
  exact va_ldcS hx hb hown (hE.2.2.2.2.2.1 _ hz) hd g
theorem a_strV {i idx : Nat} (hd : decode (mB mt) pc = .ok (.getfield idx, 3)) (hl : Cond.fieldLink (mN mt).cls idx "java/lang/String" "value" "[B" ∈ lw_tbl) (hi : i < 5) (kk : AW X mt d kc ks (pc + 3) ls (.ref (1011 + i) :: st) h Q) : AW X mt d kc ks pc ls (.ref (1001 + i) :: st) h Q := by
  intro p l e R s m args below meth c A G cls Z H locs cells slots ad lsA C F D hc hs2 hA
  obtain ⟨hx, hb, hml, hown, hw, -, hls, -, -, -, hK, hE, hd1, hd2⟩ := id C
  have g := kk p l e R s m args below meth c A G cls Z H locs cells slots ad lsA C F D hc hs2 hA
  have e1 : cv ad (.ref (1001 + i)) = .ref (X.2.1 i) := by simp only [cv, D.2.2.2.2.2.1 i hi]
  have e2 : cv ad (.ref (1011 + i)) = .ref (X.2.2.1 i) := by simp only [cv, D.2.2.2.2.2.2.1 i hi]
  rw [List.map_cons, e2] at g
  rw [List.map_cons, e1]
  exact vk_getf hx hb (hE.2.2.2.2.1.1 i hi).2.2.1 D.2.2.1 hown (hw _ hl rfl) (fun _ q => q) hd g
theorem a_strC {i idx : Nat} (hd : decode (mB mt) pc = .ok (.getfield idx, 3)) (hl : Cond.fieldLink (mN mt).cls idx "java/lang/String" "coder" "B" ∈ lw_tbl) (hi : i < 5) (kk : AW X mt d kc ks (pc + 3) ls (.int 0 :: st) h Q) : AW X mt d kc ks pc ls (.ref (1001 + i) :: st) h Q := by
  intro p l e R s m args below meth c A G cls Z H locs cells slots ad lsA C F D hc hs2 hA
  obtain ⟨hx, hb, hml, hown, hw, -, hls, -, -, -, hK, hE, hd1, hd2⟩ := id C
  have g := kk p l e R s m args below meth c A G cls Z H locs cells slots ad lsA C F D hc hs2 hA
  have e1 : cv ad (.ref (1001 + i)) = .ref (X.2.1 i) := by simp only [cv, D.2.2.2.2.2.1 i hi]
  rw [List.map_cons, e1]
  exact vk_getf hx hb (hE.2.2.2.2.1.1 i hi).2.1 D.2.2.1 hown (hw _ hl rfl) (fun _ q => q) hd g
theorem a_strL {i : Nat} (hd : decode (mB mt) pc = .ok (.arraylength, 1)) (hi : i < 5) (kk : AW X mt d kc ks (pc + 1) ls (.int (nI (zLen.getD i 0)) :: st) h Q) : AW X mt d kc ks pc ls (.ref (1011 + i) :: st) h Q := by
  intro p l e R s m args below meth c A G cls Z H locs cells slots ad lsA C F D hc hs2 hA
  obtain ⟨hx, hb, hml, hown, hw, -, hls, -, -, -, hK, hE, hd1, hd2⟩ := id C
  have g := kk p l e R s m args below meth c A G cls Z H locs cells slots ad lsA C F D hc hs2 hA
  have e2 : cv ad (.ref (1011 + i)) = .ref (X.2.2.1 i) := by simp only [cv, D.2.2.2.2.2.2.1 i hi]
  rw [List.map_cons, e2]
  exact va_tlen hx hb (hE.2.2.2.2.1.1 i hi).2.2.2 D.2.2.1 rfl hd g
theorem a_strB {i j : Nat} (hd : decode (mB mt) pc = .ok (.baload, 1)) (hi : i < 5) (hj : j < zLen.getD i 0) (hj2 : zLen.getD i 0 < 2 ^ 31) (kk : AW X mt d kc ks (pc + 1) ls (.int ((zByt.getD i []).getD j 0) :: st) h Q) : AW X mt d kc ks pc ls (.int (nI j) :: .ref (1011 + i) :: st) h Q := by
  intro p l e R s m args below meth c A G cls Z H locs cells slots ad lsA C F D hc hs2 hA
  obtain ⟨hx, hb, hml, hown, hw, -, hls, -, -, -, hK, hE, hd1, hd2⟩ := id C
  have g := kk p l e R s m args below meth c A G cls Z H locs cells slots ad lsA C F D hc hs2 hA
  have e2 : cv ad (.ref (1011 + i)) = .ref (X.2.2.1 i) := by simp only [cv, D.2.2.2.2.2.2.1 i hi]
  rw [List.map_cons, List.map_cons, e2]
  exact va_tb hx hb (hE.2.2.2.2.1.1 i hi).2.2.2 D.2.2.1 (vp_in_nI hj hj2) (v := .int ((zByt.getD i []).getD j 0)) (by rw [nI_clamp (by omega)]) hd g
theorem a_getCS {idx : Nat} (hd : decode (mB mt) pc = .ok (.getstatic idx, 3)) (hl : Cond.fieldLink (mN mt).cls idx "java/lang/String" "COMPACT_STRINGS" "Z" ∈ lw_tbl) (kk : AW X mt d kc ks (pc + 3) ls (.int 1 :: st) h Q) : AW X mt d kc ks pc ls st h Q := by
  intro p l e R s m args below meth c A G cls Z H locs cells slots ad lsA C F D hc hs2 hA
  obtain ⟨hx, hb, hml, hown, hw, -, hls, -, -, -, hK, hE, hd1, hd2⟩ := id C
  exact va_gets hx hb hE.2.2.2.2.2.2.1 D.2.2.1 hown (hw _ hl rfl) (fun _ q => q) hd (kk p l e R s m args below meth c A G cls Z H locs cells slots ad lsA C F D hc hs2 hA)
theorem a_getSF {idx : Nat} (hd : decode (mB mt) pc = .ok (.getstatic idx, 3)) (hl : Cond.fieldLink (mN mt).cls idx zF1 zF2 zF3 ∈ lw_tbl) (k1 : AW X mt d kc ks (pc + 3) ls (.null :: st) h Q) (k2 : AW X mt d kc ks (pc + 3) ls (.ref 1020 :: st) h Q) : AW X mt d kc ks pc ls st h Q := by
  intro p l e R s m args below meth c A G cls Z H locs cells slots ad lsA C F D hc hs2 hA
  obtain ⟨hx, hb, hml, hown, hw, -, hls, -, -, -, hK, hE, hd1, hd2⟩ := id C
  rcases hE.2.2.2.2.2.2.2.2.2.2 with hz | hz
  · exact va_gets hx hb hz D.2.2.1 hown (hw _ hl rfl) (fun _ q => q) hd (k1 p l e R s m args below meth c A G cls Z H locs cells slots ad lsA C F D hc hs2 hA)
  · have g := k2 p l e R s m args below meth c A G cls Z H locs cells slots ad lsA C F D hc hs2 hA
    have e1 : cv ad (.ref 1020) = .ref X.2.2.2 := by simp only [cv, D.2.2.2.2.2.2.2]
    rw [List.map_cons, e1] at g
    exact va_gets hx hb hz D.2.2.1 hown (hw _ hl rfl) (fun _ q => q) hd g
/-- a method of a String constant -/
theorem a_callVs {mt' : MT} {idx n i : Nat} {as stk : List Value} {Q' : Res → AH → Prop} (hd : decode (mB mt) pc = .ok (.invokevirtual idx, 3)) (hl : Cond.methodLink (mN mt).cls idx (mN mt') ∈ lw_tbl ∧ Cond.instanceMethod (mN mt') ∈ lw_tbl ∧ Cond.selects "java/lang/String" (mN mt') (mN mt') ∈ lw_tbl) (hce : CE mt' n) (hi : i < 5) (hc' : AC mt' d 0 0 (.ref (1001 + i) :: as) h Q') (hn : as.length = n) (hstk : stk = as.reverse ++ .ref (1001 + i) :: st) (hst : (st.map fun v => v.category).sum ≤ 8)
    (hnt : ∀ E h', ¬ Q' (.inr E) h') (hok : ∀ v h', Q' (.inl v) h' → hN h' = hN h) (kk : ∀ v h', Q' (.inl v) h' → AW X mt (d + 1) kc ks (pc + 3) ls (v.toList ++ st) h' Q) : AW X mt (d + 1) kc ks pc ls stk h Q := by
  subst hstk
  intro p l e R s m args below meth c A G cls Z H locs cells slots ad lsA C F D hc hs2 hA
  obtain ⟨hx, hb2, hml, hown, hw, -, hls, -, -, -, hK, hE, hd1, hd2⟩ := id C
  have ht : ∀ w ∈ lw_tbl.filter goodWord, w.before args s = true := fun w q => hw w (List.mem_filter.mp q).1 (List.mem_filter.mp q).2
  have cw : CallB R s args (mN mt).cls idx (mN mt') (mB mt') (mL mt') (mR mt') (wsM mt') (rmM d 0 0) 0 0 n := callB_of n ht (wsM_good hce) rfl rfl rfl (hw _ hce.1.2 rfl) (hw _ hl.1 rfl) hce.2.1 ⟨by show d + 1 ≤ _; exact hd1, by show 8 + (mL mt' + 11) + 40 * d ≤ _; have := hce.2.2; omega⟩
  have hrecv := vk_recv hE.2.2.2.2.1 hi D.2.2.1
  rw [← D.2.2.2.2.2.1 i hi] at hrecv
  obtain ⟨q1, q2⟩ := pre_call C D ((Value.ref (1001 + i) :: as).map (cv ad))
  refine w_after (st := st) (mc := 0) (ms := 0) (Q' := Q') (a := ((Value.ref (1001 + i) :: as).map (cv ad)).toArray) ?_ C F D hc hs2 hA hnt (Or.inl hok) kk
  exact vx_runV (C := "java/lang/String") (b := ad (1001 + i)) (As := as.map (cv ad)) (rest := st.map (cv ad)) ⟨hx, hb2, hml, hown, ht⟩ (hc' X l hls G cls ad H.size D.2.2.2.1 D.2.2.2.2) ⟨cw, hw _ hl.2.1 rfl, hw _ hl.2.2 rfl⟩ ⟨q1, hrecv, q2⟩ rfl (by rw [List.length_map]; exact hn) (hA.1) (by simp [cv]) (lv_room (cat_rest hst)) hd ⟨by omega, by omega⟩
-- System.arraycopy, of ints and of bytes
theorem acp_in : Cond.native arraycopyName ∈ lw_tbl ∧ Cond.static arraycopyName ∈ lw_tbl ∧ Cond.initialized "java/lang/System" ∈ lw_tbl := by decide +kernel
theorem a_copy {a b n1 n2 t idx sp dp n : Nat} {i1 i2 i3 : Int32} (hd : decode (mB mt) pc = .ok (.invokestatic idx, 3)) (hl : Cond.methodLink (mN mt).cls idx arraycopyName ∈ lw_tbl) (hsa : shK a = some (.inr (t, n1))) (hsb : shK b = some (.inr (t, n2))) (ht : t ≤ 1) (ha : a < hN h) (hb : b < hN h) (hi1 : i1 = nI sp) (hi2 : i2 = nI dp) (hi3 : i3 = nI n) (h4 : sp + n ≤ n1) (h5 : dp + n ≤ n2) (hfit : t = 1 → ∀ i, i < n → fits .byte (.int (hI h a (sp + i))) = true) (hst : (st.map fun v => v.category).sum ≤ 8)
    (kk : AW X mt (d + 1) kc ks (pc + 3) ls st (rI h b (va_cpy (hI h a) (hI h b) sp dp n)) Q) : AW X mt (d + 1) kc ks pc ls (.int i3 :: .int i2 :: .ref b :: .int i1 :: .ref a :: st) h Q := by
  subst hi1; subst hi2; subst hi3
  intro p l e R s m args below meth c A G cls Z H locs cells slots ad lsA C F D hc hs2 hA
  obtain ⟨hx, hb2, hml, hown, hw, -, hls, -, -, -, hK, hE, hd1, hd2⟩ := id C
  have l1 := (shK_len hsa).2
  have l2 := (shK_len hsb).2
  have hga : (wld cls ad h)[a]? = some (ad a, .inl (cls t, n1, .inl (hI h a))) := by
    rw [wld_get ha, ce_arr hsa]; unfold aC; rw [if_pos (by omega)]
  have hgb : (wld cls ad h)[b]? = some (ad b, .inl (cls t, n2, .inl (hI h b))) := by
    rw [wld_get hb, ce_arr hsb]; unfold aC; rw [if_pos (by omega)]
  have hset : (wld cls ad h).set b (ad b, .inl (cls t, n2, .inl (va_cpy (hI h a) (hI h b) sp dp n))) = wld cls ad (rI h b (va_cpy (hI h a) (hI h b) sp dp n)) := by
    refine wld_set hN_rI (fun q z => ce_congr (upr_row z) rfl (fun _ => rfl)) ?_ hb
    rw [ce_arr hsb]
    have e : hI (rI h b (va_cpy (hI h a) (hI h b) sp dp n)) b = va_cpy (hI h a) (hI h b) sp dp n := if_pos rfl
    unfold aC
    rw [if_pos (by omega), e]
  have c1 : (nI sp).toNatClampNeg = sp := nI_clamp (by omega)
  have c2 : (nI dp).toNatClampNeg = dp := nI_clamp (by omega)
  have c3 : (nI n).toNatClampNeg = n := nI_clamp (by omega)
  have hcat := cat_rest (ad := ad) hst
  have go : ∀ (H1 : Heap) (locs1 : List Loc), va_P G vwCl ((wld cls ad h).set b (ad b, .inl (cls t, n2, .inl (va_cpy (hI h a) (hI h b) (nI sp).toNatClampNeg (nI dp).toNatClampNeg (nI n).toNatClampNeg)))) H1 → va_D A ((wld cls ad h).set b (ad b, .inl (cls t, n2, .inl (va_cpy (hI h a) (hI h b) (nI sp).toNatClampNeg (nI dp).toNatClampNeg (nI n).toNatClampNeg)))) → va_S A s.heap H1 locs1 → W p l e R s m args below meth c H1 locs1 cells slots Z (F0 m (pc + 3) lsA (st.map (cv ad))) := by
    intro H1 locs1 z1 z2 z3
    rw [c1, c2, c3, hset] at z1 z2
    exact kk p l e R s m args below meth c A G cls Z H1 locs1 cells slots ad lsA C F ⟨z1, z2, z3, wfh_rI D.2.2.2.1, D.2.2.2.2⟩ hc hs2 hA
  have hwords : nativeFrameWords "java/lang/System" "arraycopy" 5 + 11 ≤ 32 := by decide
  rcases (by omega : t = 0 ∨ t = 1) with rfl | rfl
  · exact va_copyi hx hb2 (hml.trans hA.1.symm) hown (hw _ hl rfl) (hw _ acp_in.1 rfl) (hw _ acp_in.2.1 rfl) (hw _ acp_in.2.2 rfl) hK D.1 D.2.1 D.2.2.1 a b 0 0 (ty := .int) hga hgb rfl rfl rfl (nI_pos (by omega)) (nI_pos (by omega)) (nI_pos (by omega)) (by rw [c1, c3]; exact h4) (by rw [c2, c3]; exact h5) (fun _ _ => rfl) (by omega) (by omega) hd go
  · exact va_copyi hx hb2 (hml.trans hA.1.symm) hown (hw _ hl rfl) (hw _ acp_in.1 rfl) (hw _ acp_in.2.1 rfl) (hw _ acp_in.2.2 rfl) hK D.1 D.2.1 D.2.2.1 a b 1 1 (ty := .byte) hga hgb rfl rfl rfl (nI_pos (by omega)) (nI_pos (by omega)) (nI_pos (by omega)) (by rw [c1, c3]; exact h4) (by rw [c2, c3]; exact h5) (fun i hi => by rw [c1]; exact hfit rfl i (by rw [c3] at hi; exact hi)) (by omega) (by omega) hd go
end RW11
