/-! texts: Strings of the world and outside; StringBuilder -/
section RW80
variable {X : XT} {mt : MT} {d kc ks pc : Nat} {ls ls' : List (Nat × Value)} {st : List Value} {h : AH} {Q : Res → AH → Prop}
/-- the heap is well made -/
theorem a_wf (k : wfh h → AW X mt d kc ks pc ls st h Q) : AW X mt d kc ks pc ls st h Q := by
  intro p l e R s m args below meth c A G cls Z H locs cells slots ad lsA C F D hc hs2 hA
  exact k D.2.2.2.1 p l e R s m args below meth c A G cls Z H locs cells slots ad lsA C F D hc hs2 hA
theorem g_vV1 {mt' : MT} {idx n b ci : Nat} {as stk : List Value} {v : Value} {h' : AH} (hd : decode (mB mt) pc = .ok (.invokevirtual idx, 3)) (hl : Cond.methodLink (mN mt).cls idx (mN mt') ∈ lw_tb2 ∧ Cond.instanceMethod (mN mt') ∈ lw_tb2 ∧ Cond.selects (cR ci) (mN mt') (mN mt') ∈ lw_tb2) (hce : CE mt' n) (hs : kdA b = some (.inl ci)) (hb : prN (hN h) b) (hc' : AC mt' d 0 0 (.ref b :: as) h (Qe (some v) h')) (hn : as.length = n) (hstk : stk = as.reverse ++ .ref b :: st) (hst : (st.map fun v => v.category).sum ≤ 8) (hN' : hN h' = hN h) (kk : AW X mt (d + 1) kc ks (pc + 3) ls (v :: st) h' Q) : AW X mt (d + 1) kc ks pc ls stk h Q :=
  g_callV (mc := 0) (ms := 0) hd hl hce hs hb hc' hn hstk hst Qe_nt (hok_of hN') (kk_of kk)
theorem g_vV0 {mt' : MT} {idx n b ci : Nat} {as stk : List Value} {h' : AH} (hd : decode (mB mt) pc = .ok (.invokevirtual idx, 3)) (hl : Cond.methodLink (mN mt).cls idx (mN mt') ∈ lw_tb2 ∧ Cond.instanceMethod (mN mt') ∈ lw_tb2 ∧ Cond.selects (cR ci) (mN mt') (mN mt') ∈ lw_tb2) (hce : CE mt' n) (hs : kdA b = some (.inl ci)) (hb : prN (hN h) b) (hc' : AC mt' d 0 0 (.ref b :: as) h (Qe none h')) (hn : as.length = n) (hstk : stk = as.reverse ++ .ref b :: st) (hst : (st.map fun v => v.category).sum ≤ 8) (hN' : hN h' = hN h) (kk : AW X mt (d + 1) kc ks (pc + 3) ls st h' Q) : AW X mt (d + 1) kc ks pc ls stk h Q :=
  g_callV (mc := 0) (ms := 0) hd hl hce hs hb hc' hn hstk hst Qe_nt (hok_of hN') (kk_of kk)
theorem g_vU1 {mt' : MT} {x : MethodName} {idx n b ci : Nat} {as stk : List Value} {v : Value} {h' : AH} (hd : decode (mB mt) pc = .ok (.invokevirtual idx, 3)) (hl : UW mt idx ci n x mt') (hce : CE mt' n) (hs : kdA b = some (.inl ci)) (hb : prN (hN h) b) (hc' : AC mt' d 0 0 (.ref b :: as) h (Qe (some v) h')) (hn : as.length = n) (hstk : stk = as.reverse ++ .ref b :: st) (hst : (st.map fun v => v.category).sum ≤ 8) (hN' : hN h' = hN h) (kk : AW X mt (d + 1) kc ks (pc + 3) ls (v :: st) h' Q) : AW X mt (d + 1) kc ks pc ls stk h Q :=
  g_callU (mc := 0) (ms := 0) hd hl hce hs hb hc' hn hstk hst Qe_nt (hok_of hN') (kk_of kk)
theorem g_vU0 {mt' : MT} {x : MethodName} {idx n b ci : Nat} {as stk : List Value} {h' : AH} (hd : decode (mB mt) pc = .ok (.invokevirtual idx, 3)) (hl : UW mt idx ci n x mt') (hce : CE mt' n) (hs : kdA b = some (.inl ci)) (hb : prN (hN h) b) (hc' : AC mt' d 0 0 (.ref b :: as) h (Qe none h')) (hn : as.length = n) (hstk : stk = as.reverse ++ .ref b :: st) (hst : (st.map fun v => v.category).sum ≤ 8) (hN' : hN h' = hN h) (kk : AW X mt (d + 1) kc ks (pc + 3) ls st h' Q) : AW X mt (d + 1) kc ks pc ls stk h Q :=
  g_callU (mc := 0) (ms := 0) hd hl hce hs hb hc' hn hstk hst Qe_nt (hok_of hN') (kk_of kk)
theorem g_vP1 {mt' : MT} {idx n b ci : Nat} {as stk : List Value} {v : Value} {h' : AH} (hd : decode (mB mt) pc = .ok (.invokespecial idx, 3)) (hl : (Cond.methodLink (mN mt).cls idx (mN mt') ∈ lw_tb2 ∧ Cond.sameMethod (mN mt').cls (mN mt').cls (mN mt').name (mN mt').desc ∈ lw_tb2) ∧ Cond.instanceMethod (mN mt') ∈ lw_tb2 ∧ Cond.superclass (mN mt).cls (mN mt').cls ∈ lw_tb2) (hni : (mN mt').name ≠ "<init>") (hce : CE mt' n) (hs : kdA b = some (.inl ci)) (hb : prN (hN h) b) (hc' : AC mt' d 0 0 (.ref b :: as) h (Qe (some v) h')) (hn : as.length = n) (hstk : stk = as.reverse ++ .ref b :: st) (hst : (st.map fun v => v.category).sum ≤ 8) (hN' : hN h' = hN h) (kk : AW X mt (d + 1) kc ks (pc + 3) ls (v :: st) h' Q) : AW X mt (d + 1) kc ks pc ls stk h Q :=
  g_callSU (mc := 0) (ms := 0) hd hl hni hce hs hb hc' hn hstk hst Qe_nt (hok_of hN') (kk_of kk)
theorem g_vP0 {mt' : MT} {idx n b ci : Nat} {as stk : List Value} {h' : AH} (hd : decode (mB mt) pc = .ok (.invokespecial idx, 3)) (hl : (Cond.methodLink (mN mt).cls idx (mN mt') ∈ lw_tb2 ∧ Cond.sameMethod (mN mt').cls (mN mt').cls (mN mt').name (mN mt').desc ∈ lw_tb2) ∧ Cond.instanceMethod (mN mt') ∈ lw_tb2 ∧ Cond.superclass (mN mt).cls (mN mt').cls ∈ lw_tb2) (hni : (mN mt').name ≠ "<init>") (hce : CE mt' n) (hs : kdA b = some (.inl ci)) (hb : prN (hN h) b) (hc' : AC mt' d 0 0 (.ref b :: as) h (Qe none h')) (hn : as.length = n) (hstk : stk = as.reverse ++ .ref b :: st) (hst : (st.map fun v => v.category).sum ≤ 8) (hN' : hN h' = hN h) (kk : AW X mt (d + 1) kc ks (pc + 3) ls st h' Q) : AW X mt (d + 1) kc ks pc ls stk h Q :=
  g_callSU (mc := 0) (ms := 0) hd hl hni hce hs hb hc' hn hstk hst Qe_nt (hok_of hN') (kk_of kk)
def sOK (h : AH) (b : Nat) : Prop := (∃ i, i < 14 ∧ b = 1001 + i) ∨ (prN (hN h) b ∧ kdA b = some (.inl 7))
theorem sOK.okd {b : Nat} (hb : sOK h b) : okd (hN h) (.ref b) := by
  rcases hb with ⟨i, hi, rfl⟩ | ⟨h1, -⟩
  · exact okd_x (by unfold ext; omega)
  · exact okd_r h1
theorem sOK.p {b : Nat} (hb : sOK h b) : prN (hN h) b ∨ ext b := by
  rcases hb with ⟨i, hi, rfl⟩ | ⟨h1, -⟩
  · exact Or.inr (by unfold ext; omega)
  · exact Or.inl h1
theorem g_vStr1 {mt' : MT} {idx n b : Nat} {as stk : List Value} {v : Value} {h' : AH} (hd : decode (mB mt) pc = .ok (.invokevirtual idx, 3)) (hl : Cond.methodLink (mN mt).cls idx (mN mt') ∈ lw_tb2 ∧ Cond.instanceMethod (mN mt') ∈ lw_tb2 ∧ Cond.selects (cR 7) (mN mt') (mN mt') ∈ lw_tb2) (hce : CE mt' n) (hb : sOK h b) (hc' : AC mt' d 0 0 (.ref b :: as) h (Qe (some v) h')) (hn : as.length = n) (hstk : stk = as.reverse ++ .ref b :: st) (hst : (st.map fun v => v.category).sum ≤ 8) (hN' : hN h' = hN h) (kk : AW X mt (d + 1) kc ks (pc + 3) ls (v :: st) h' Q) : AW X mt (d + 1) kc ks pc ls stk h Q := by
  rcases hb with ⟨i, hi, rfl⟩ | ⟨h1, h2⟩
  · exact a_vStr hd hl hce hi hc' hn hstk hst hN' kk
  · exact g_vV1 hd hl hce h2 h1 hc' hn hstk hst hN' kk
theorem g_vStr0 {mt' : MT} {idx n b : Nat} {as stk : List Value} {h' : AH} (hd : decode (mB mt) pc = .ok (.invokevirtual idx, 3)) (hl : Cond.methodLink (mN mt).cls idx (mN mt') ∈ lw_tb2 ∧ Cond.instanceMethod (mN mt') ∈ lw_tb2 ∧ Cond.selects (cR 7) (mN mt') (mN mt') ∈ lw_tb2) (hce : CE mt' n) (hb : sOK h b) (hc' : AC mt' d 0 0 (.ref b :: as) h (Qe none h')) (hn : as.length = n) (hstk : stk = as.reverse ++ .ref b :: st) (hst : (st.map fun v => v.category).sum ≤ 8) (hN' : hN h' = hN h) (kk : AW X mt (d + 1) kc ks (pc + 3) ls st h' Q) : AW X mt (d + 1) kc ks pc ls stk h Q := by
  rcases hb with ⟨i, hi, rfl⟩ | ⟨h1, h2⟩
  · exact a_callVs hd hl hce hi hc' hn hstk hst Qe_nt (fun v2 h2 q => by rw [q.2]; exact hN') (kk_of kk)
  · exact g_vV0 hd hl hce h2 h1 hc' hn hstk hst hN' kk
/-- nothing is copied out of a constant's bytes -/
theorem g_copy0 {i b n2 dp idx : Nat} {i2 : Int32} (hd : decode (mB mt) pc = .ok (.invokestatic idx, 3)) (hl : Cond.methodLink (mN mt).cls idx arraycopyName ∈ lw_tb2) (hi : i < 14) (hsb : kdA b = some (.inr (1, n2))) (hb : prN (hN h) b) (hi2 : i2 = nI dp) (h5 : dp ≤ n2) (hst : (st.map fun v => v.category).sum ≤ 8)
    (kk : AW X mt (d + 1) kc ks (pc + 3) ls st h Q) : AW X mt (d + 1) kc ks pc ls (.int (nI 0) :: .int i2 :: .ref b :: .int (nI 0) :: .ref (1041 + i) :: st) h Q := by
  subst hi2
  intro p l e R s m args below meth c A G cls Z H locs cells slots ad lsA C F D hc hs2 hA
  obtain ⟨hx, hb2, hml, hown, hw, -, hls, -, -, -, hK, hE, hd1, hd2⟩ := id C
  have l2 := (kdA_len hsb).2
  obtain ⟨ib, hib, hgb⟩ := wld_at (cls := cls) (ad := ad) hb
  have ha1 : (wld cls ad h)[ib]? = some (ad b, .inl (cls 1, n2, .inl (hI h b))) := by
    rw [hgb, ce_arr hsb]; rfl
  have hcat := cat_rest (ad := ad) hst
  have hwords : nativeFrameWords "java/lang/System" "arraycopy" 5 + 11 ≤ 32 := by decide
  have e1 : cv ad (.ref (1041 + i)) = .ref (X.2.2.1 i) := by simp only [cv, D.2.2.2.2.2.2.1 i hi]
  rw [List.map_cons, List.map_cons, List.map_cons, List.map_cons, List.map_cons, e1]
  intro T hT Xs
  obtain ⟨scr, hs1, ⟨hs6, k0, hk0, cm0, hkk0⟩, hs3, hs4, hs5, -, hs7⟩ := (hE.2.2.2.2.1.1 i hi).2.2.2
  have hl1 : X.2.2.1 i < s.heap.size := (Array.getElem?_eq_some_iff.mp hs1).1
  have hc0 : H[X.2.2.1 i]? = some scr := by rw [D.2.2.1.2.1 _ hl1 hs7]; exact hs1
  have hc1 : H[ad b]? = some (vp_cell (cls 1) (n2, .inl (hI h b))) := D.1 ib _ ha1
  obtain ⟨-, k1, hk1, cm1, hkk1⟩ := (hK.2 1 _ rfl).1 n2 (fun j => .int (hI h b j))
  have q0 : (nI 0).toNatClampNeg = 0 := nI_clamp (by omega)
  have q1 : (nI dp).toNatClampNeg = dp := nI_clamp (by omega)
  have q2 : (nI dp).toInt = (dp : Int) := nI_toInt (by omega)
  have q3 : (nI 0).toInt = (0 : Int) := nI_toInt (by omega)
  obtain ⟨vm', X', step⟩ := Xs.arraycopy hx hown (hw _ hl rfl) (hw _ acp_in.1 rfl) (hw _ acp_in.2.1 rfl) (hw _ acp_in.2.2 rfl) (src := X.2.2.1 i) (dst := ad b) (cs := scr) (cd := vp_cell (cls 1) (n2, .inl (hI h b))) (srcPos := nI 0) (destPos := nI dp) (n := nI 0) (by rw [hT]; exact hc0) (by rw [hT]; exact hc1)
    hs6 (fun _ h => by cases h) hs3 (fun h => by cases h) hk0 hk1 hkk0 hkk1 (by simp [refKind]) (nI_pos (by omega)) (nI_pos (by omega)) (nI_pos (by omega))
    (by rw [q3]; omega)
    (by rw [q2, q3]; show ¬ _ > ((arrV (cls 1) n2 (fun j => .int (hI h b j))).slots.size : Int); rw [arrV_size]; omega)
    (fun vm₁ _ j hj => by rw [q0] at hj; exact absurd hj (Nat.not_lt_zero _))
    (g := F0 m pc lsA (.int (nI 0) :: .int (nI dp) :: .ref (ad b) :: .int (nI 0) :: .ref (X.2.2.1 i) :: st.map (cv ad))) rfl (show lsA.size = c.maxLocals from hA.1.trans hml.symm) (rest := st.map (cv ad)) rfl (by rw [hb2]; exact hd) (by omega) (by show 2 * 0 + _ + _ ≤ _; omega)
  have e2 : copied scr (vp_cell (cls 1) (n2, .inl (hI h b))) (nI 0) (nI dp) (nI 0) = vp_cell (cls 1) (n2, .inl (va_cpy (fun _ => 0) (hI h b) (nI 0).toNatClampNeg (nI dp).toNatClampNeg (nI 0).toNatClampNeg)) :=
    va_copiedX (n0 := 0) (fun z => .int z) scr (cls 1) (fun _ => 0) (hI h b) (fun j hj => absurd hj (Nat.not_lt_zero j)) (by rw [q0]; exact Nat.le_refl _)
  rw [q0, q1] at e2
  have e3 : va_cpy (fun _ => 0) (hI h b) 0 dp 0 = hI h b := funext fun k => by
    unfold va_cpy
    rw [if_neg (by omega)]
  rw [e2, e3] at X' step
  have hlb : ad b < H.size := (Array.getElem?_eq_some_iff.mp hc1).1
  have hheap : ((T.setVm vm').setCell (ad b) (vp_cell (cls 1) (n2, .inl (hI h b)))).heap = H := by
    have : ((T.setVm vm').setCell (ad b) (vp_cell (cls 1) (n2, .inl (hI h b)))).heap = H.setIfInBounds (ad b) (vp_cell (cls 1) (n2, .inl (hI h b))) := by rw [← hT]; rfl
    rw [this]
    apply Array.ext_getElem?
    intro q
    rw [Array.getElem?_setIfInBounds]
    split
    · rename_i z
      rw [← z, hc1]
    · rfl
  obtain ⟨t, a1, b1⟩ := kk p l e R s m args below meth c A G cls Z H _ cells slots ad lsA C F ⟨D.1, D.2.1, ⟨D.2.2.1.1, D.2.2.1.2.1, fun q hq => by
      rcases List.mem_append.mp hq with z | z
      · exact D.2.2.1.2.2 q z
      · obtain ⟨y, -, hy⟩ := List.mem_map.mp z
        rw [← hy]
        exact D.2.1.2 ib _ ha1⟩, D.2.2.2⟩ hc hs2 hA _ hheap X'
  exact ⟨t, step t a1, b1⟩
end RW80
/-- the characters of a constant -/
def zT (i : Nat) : List Nat := (zByt.getD i []).map (fun b => b.toNatClampNeg)
theorem zT_ok {i : Nat} (hi : i < 14) : (zT i).length = zLen.getD i 0 ∧ (∀ j, j < zLen.getD i 0 → zC i j = nI ((zT i).getD j 0)) ∧ (∀ j, (zT i).getD j 0 < 128) ∧ zLen.getD i 0 < 8 := by
  have h : ∀ i : Fin 14, (zT i.val).length = zLen.getD i.val 0 ∧ (∀ j : Fin 8, j.val < zLen.getD i.val 0 → zC i.val j.val = nI ((zT i.val).getD j.val 0)) ∧ ((zT i.val).all (fun c => decide (c < 128)) = true) ∧ zLen.getD i.val 0 < 8 := by decide +kernel
  obtain ⟨h1, h2, h3, h4⟩ := h ⟨i, hi⟩
  refine ⟨h1, fun j hj => h2 ⟨j, Nat.lt_trans hj h4⟩ hj, fun j => ?_, h4⟩
  rw [List.getD_eq_getElem?_getD]
  cases e : (zT i)[j]? with
  | none => exact (by decide : (0 : Nat) < 128)
  | some c => simpa using List.all_eq_true.mp h3 c (List.mem_of_getElem? e)
/-- the String at r, in the world, with its bytes at v -/
def SWv (h : AH) (r v : Nat) (T : List Nat) : Prop := (kdA r = some (.inl 7) ∧ prN (hN h) r) ∧ hI h r 1 = nI 0 ∧ hR h r 0 = some v ∧ (kdA v = some (.inr (1, T.length)) ∧ prN (hN h) v) ∧ T.length < 64 ∧ ∀ j, j < T.length → hI h v j = nI (T.getD j 0)
/-- the String at r says T -/
def STR (h : AH) (r : Nat) (T : List Nat) : Prop := (∀ j, T.getD j 0 < 128) ∧ ((∃ i, i < 14 ∧ r = 1001 + i ∧ T = zT i) ∨ ∃ v, SWv h r v T)
theorem STR.ok {h : AH} {r : Nat} {T : List Nat} (s : STR h r T) : sOK h r := by
  rcases s.2 with ⟨i, hi, e, -⟩ | ⟨v, w⟩
  · exact Or.inl ⟨i, hi, e⟩
  · exact Or.inr ⟨w.1.2, w.1.1⟩
theorem STR.lt {h : AH} {r : Nat} {T : List Nat} (s : STR h r T) : T.length < 64 := by
  rcases s.2 with ⟨i, hi, -, rfl⟩ | ⟨v, w⟩
  · have := zT_ok hi; omega
  · exact w.2.2.2.2.1
theorem ch8 {c : Nat} (hc : c < 128) : ((nI c &&& nI 255).toUInt32 % 65536).toInt32 = nI c ∧ narrow .char (.int (nI c)) = .int (nI c) ∧ (nI c).toInt8.toInt32 = nI c := by
  have h : ∀ c : Fin 128, ((nI c.val &&& nI 255).toUInt32 % 65536).toInt32 = nI c.val ∧ narrow .char (.int (nI c.val)) = .int (nI c.val) ∧ (nI c.val).toInt8.toInt32 = nI c.val := by decide +kernel
  exact h ⟨c, hc⟩
theorem shr0 {n : Nat} (hn : n < 64) : nI n >>> (nI 0 &&& 31) = nI n ∧ nI n <<< (nI 0 &&& 31) = nI n := by
  have h : ∀ n : Fin 64, nI n.val >>> (nI 0 &&& 31) = nI n.val ∧ nI n.val <<< (nI 0 &&& 31) = nI n.val := by decide +kernel
  exact h ⟨n, hn⟩
set_option maxHeartbeats 1500000 in
set_option maxRecDepth 100000 in
theorem sw_coder {d r v : Nat} {T : List Nat} {h : AH} (w : SWv h r v T) : AC mJ0_coder_7d493 d 0 0 [.ref r] h (Qe (some (.int (nI 0))) h) := by
  refine AC.of (by decide) rfl (Nat.le_of_ble_eq_true rfl) (fun X => ?_)
  show AW X mJ0_coder_7d493 d 0 0 0 [(0, .ref r)] [] h (Qe (some (.int (nI 0))) h)
  refine a_getCS (pc := 0) dJ0_coder_7d493_0 (by decide +kernel) ?_
  refine a_top (show (.int 1 : Value) = .int (nI 1) from rfl) ?_
  refine n_if_eq (pc := 3) (tgt := 13) dJ0_coder_7d493_3 (by decide) (by omega) (fun c3 => ?_) (fun c3 => ?_)
  · exact absurd c3 (by decide)
  · skip
    refine a_aload_n (pc := 6) (i := 0) dJ0_coder_7d493_6 rfl rfl ?_
    refine g_getI (pc := 7) (ci := 7) (k := 1) dJ0_coder_7d493_7 (lf_RJ0_15 rfl) (by decide) rfl w.1.1 w.1.2 ?_
    refine a_top (show (.int (hI h r 1) : Value) = .int (nI 0) from congrArg Value.int w.2.1) ?_
    refine a_goto (pc := 10) (tgt := 14) dJ0_coder_7d493_10 (by decide) ?_
    exact a_ireturn (pc := 14) dJ0_coder_7d493_14 rfl rfl (⟨rfl, rfl⟩)
set_option maxHeartbeats 1500000 in
set_option maxRecDepth 100000 in
theorem sw_isLatin1 {d r v : Nat} {T : List Nat} {h : AH} (w : SWv h r v T) : AC mJ0_isLatin1_aae02 d 0 0 [.ref r] h (Qe (some (.int (nI 1))) h) := by
  refine AC.of (by decide) rfl (Nat.le_of_ble_eq_true rfl) (fun X => ?_)
  show AW X mJ0_isLatin1_aae02 d 0 0 0 [(0, .ref r)] [] h (Qe (some (.int (nI 1))) h)
  refine a_getCS (pc := 0) dJ0_isLatin1_aae02_0 (by decide +kernel) ?_
  refine a_top (show (.int 1 : Value) = .int (nI 1) from rfl) ?_
  refine n_if_eq (pc := 3) (tgt := 17) dJ0_isLatin1_aae02_3 (by decide) (by omega) (fun c3 => ?_) (fun c3 => ?_)
  · exact absurd c3 (by decide)
  · skip
    refine a_aload_n (pc := 6) (i := 0) dJ0_isLatin1_aae02_6 rfl rfl ?_
    refine g_getI (pc := 7) (ci := 7) (k := 1) dJ0_isLatin1_aae02_7 (lf_RJ0_15 rfl) (by decide) rfl w.1.1 w.1.2 ?_
    refine a_top (show (.int (hI h r 1) : Value) = .int (nI 0) from congrArg Value.int w.2.1) ?_
    refine n_if_ne (pc := 10) (tgt := 17) dJ0_isLatin1_aae02_10 (by decide) (by omega) (fun c10 => ?_) (fun c10 => ?_)
    · exact absurd c10 (by decide)
    · skip
      refine a_iconst (pc := 13) (v := nI 1) dJ0_isLatin1_aae02_13 (by decide) ?_
      refine a_goto (pc := 14) (tgt := 18) dJ0_isLatin1_aae02_14 (by decide) ?_
      exact a_ireturn (pc := 18) dJ0_isLatin1_aae02_18 rfl rfl (⟨rfl, rfl⟩)
set_option maxHeartbeats 1500000 in
set_option maxRecDepth 100000 in
theorem sw_length {d r v : Nat} {T : List Nat} {h : AH} (w : SWv h r v T) : AC mJ0_length_8abf5 (d + 1) 0 0 [.ref r] h (Qe (some (.int (nI T.length))) h) := by
  refine AC.of (by decide) rfl (Nat.le_of_ble_eq_true rfl) (fun X => ?_)
  show AW X mJ0_length_8abf5 (d + 1) 0 0 0 [(0, .ref r)] [] h (Qe (some (.int (nI T.length))) h)
  refine a_aload_n (pc := 0) (i := 0) dJ0_length_8abf5_0 rfl rfl ?_
  refine g_getR (pc := 1) (ci := 7) (k := 0) (b := v) dJ0_length_8abf5_1 (lf_RJ0_9 rfl) (by decide) rfl w.1.1 w.1.2 w.2.2.1 ?_
  refine g_alen (pc := 4) (n := T.length) dJ0_length_8abf5_4 w.2.2.2.1.1 w.2.2.2.1.2 ?_
  refine a_aload_n (pc := 5) (i := 0) dJ0_length_8abf5_5 rfl rfl ?_
  refine g_vStr1 (pc := 6) (as := []) (b := r) (v := .int (nI 0)) (h' := h) dJ0_length_8abf5_6 (lc_RJ0_335 rfl) ceJ0_coder_7d493 (Or.inr ⟨w.1.2, w.1.1⟩) (sw_coder w) rfl rfl (Nat.le_of_ble_eq_true rfl) rfl ?_
  refine a_ishr (pc := 9) dJ0_length_8abf5_9 ?_
  refine a_top (show (.int ((nI T.length) >>> ((nI 0) &&& 31)) : Value) = .int (nI T.length) from congrArg Value.int (shr0 w.2.2.2.2.1).1) ?_
  exact a_ireturn (pc := 10) dJ0_length_8abf5_10 rfl rfl (⟨rfl, rfl⟩)
set_option maxHeartbeats 1500000 in
set_option maxRecDepth 100000 in
theorem sw_lcharAt {d r v : Nat} {T : List Nat} {h : AH} (w : SWv h r v T) {j : Nat} (hj : j < T.length) (hT : ∀ j, T.getD j 0 < 128) : AC mJ1_charAt_3b067 (d + 2) 0 0 [.ref v, .int (nI j)] h (Qe (some (.int (nI (T.getD j 0)))) h) := by
  have hl := w.2.2.2.2.1
  refine AC.of (by decide) rfl (Nat.le_of_ble_eq_true rfl) (fun X => ?_)
  show AW X mJ1_charAt_3b067 (d + 2) 0 0 0 [(0, .ref v), (1, .int (nI j))] [] h (Qe (some (.int (nI (T.getD j 0)))) h)
  refine a_iload_n (pc := 0) (i := 1) dJ1_charAt_3b067_0 rfl rfl ?_
  refine a_aload_n (pc := 1) (i := 0) dJ1_charAt_3b067_1 rfl rfl ?_
  refine g_alen (pc := 2) (n := T.length) dJ1_charAt_3b067_2 w.2.2.2.1.1 w.2.2.2.1.2 ?_
  refine a_vS0 (pc := 3) (as := [.int (nI j), .int (nI T.length)]) (h' := h) dJ1_charAt_3b067_3 (lc_RJ1_9 rfl) ceJ0_checkIndex_df160 (sp_schk hj (by omega)) rfl rfl (Nat.le_of_ble_eq_true rfl) rfl ?_
  refine a_aload_n (pc := 6) (i := 0) dJ1_charAt_3b067_6 rfl rfl ?_
  refine a_iload_n (pc := 7) (i := 1) dJ1_charAt_3b067_7 rfl rfl ?_
  refine g_bald (pc := 8) (j := j) dJ1_charAt_3b067_8 w.2.2.2.1.1 w.2.2.2.1.2 rfl (by omega) ?_
  refine a_top (show (.int (hI h v j) : Value) = .int (nI (T.getD j 0)) from congrArg Value.int (w.2.2.2.2.2 j hj)) ?_
  refine a_sipush (pc := 9) (v := nI 255) dJ1_charAt_3b067_9 (by decide) ?_
  refine a_iand (pc := 12) dJ1_charAt_3b067_12 ?_
  refine a_i2c (pc := 13) dJ1_charAt_3b067_13 ?_
  refine a_top (show (.int ((((nI (T.getD j 0)) &&& (nI 255)).toUInt32 % 65536).toInt32) : Value) = .int (nI (T.getD j 0)) from congrArg Value.int (ch8 (hT j)).1) ?_
  exact a_ireturn (pc := 14) dJ1_charAt_3b067_14 rfl (ch8 (hT j)).2.1 (⟨rfl, rfl⟩)
set_option maxHeartbeats 1500000 in
set_option maxRecDepth 100000 in
theorem sw_charAt {d r v : Nat} {T : List Nat} {h : AH} (w : SWv h r v T) {j : Nat} (hj : j < T.length) (hT : ∀ j, T.getD j 0 < 128) : AC mJ0_charAt_5068e (d + 3) 0 0 [.ref r, .int (nI j)] h (Qe (some (.int (nI (T.getD j 0)))) h) := by
  refine AC.of (by decide) rfl (Nat.le_of_ble_eq_true rfl) (fun X => ?_)
  show AW X mJ0_charAt_5068e (d + 3) 0 0 0 [(0, .ref r), (1, .int (nI j))] [] h (Qe (some (.int (nI (T.getD j 0)))) h)
  refine a_aload_n (pc := 0) (i := 0) dJ0_charAt_5068e_0 rfl rfl ?_
  refine g_vStr1 (pc := 1) (as := []) (b := r) (v := .int (nI 1)) (h' := h) dJ0_charAt_5068e_1 (lc_RJ0_492 rfl) ceJ0_isLatin1_aae02 (Or.inr ⟨w.1.2, w.1.1⟩) (sw_isLatin1 w) rfl rfl (Nat.le_of_ble_eq_true rfl) rfl ?_
  refine n_if_eq (pc := 4) (tgt := 16) dJ0_charAt_5068e_4 (by decide) (by omega) (fun c4 => ?_) (fun c4 => ?_)
  · exact absurd c4 (by decide)
  · skip
    refine a_aload_n (pc := 7) (i := 0) dJ0_charAt_5068e_7 rfl rfl ?_
    refine g_getR (pc := 8) (ci := 7) (k := 0) (b := v) dJ0_charAt_5068e_8 (lf_RJ0_9 rfl) (by decide) rfl w.1.1 w.1.2 w.2.2.1 ?_
    refine a_iload_n (pc := 11) (i := 1) dJ0_charAt_5068e_11 rfl rfl ?_
    refine a_vS1 (pc := 12) (as := [.ref v, .int (nI j)]) (v := .int (nI (T.getD j 0))) (h' := h) dJ0_charAt_5068e_12 (lc_RJ0_495 rfl) ceJ1_charAt_3b067 (sw_lcharAt w hj hT) rfl rfl (Nat.le_of_ble_eq_true rfl) rfl ?_
    exact a_ireturn (pc := 15) dJ0_charAt_5068e_15 rfl (ch8 (hT j)).2.1 (⟨rfl, rfl⟩)
theorem s_coder {d r : Nat} {T : List Nat} {h : AH} (s : STR h r T) : AC mJ0_coder_7d493 d 0 0 [.ref r] h (Qe (some (.int (nI 0))) h) := by
  rcases s.2 with ⟨i, hi, rfl, rfl⟩ | ⟨v, w⟩
  · exact sp_coder hi
  · exact sw_coder w
theorem s_len {d r : Nat} {T : List Nat} {h : AH} (s : STR h r T) : AC mJ0_length_8abf5 (d + 1) 0 0 [.ref r] h (Qe (some (.int (nI T.length))) h) := by
  rcases s.2 with ⟨i, hi, rfl, rfl⟩ | ⟨v, w⟩
  · rw [(zT_ok hi).1]; exact sp_strlen hi
  · exact sw_length w
theorem s_charAt {d r j : Nat} {T : List Nat} {h : AH} (s : STR h r T) (hj : j < T.length) : AC mJ0_charAt_5068e (d + 3) 0 0 [.ref r, .int (nI j)] h (Qe (some (.int (nI (T.getD j 0)))) h) := by
  rcases s.2 with ⟨i, hi, rfl, rfl⟩ | ⟨v, w⟩
  · have z := zT_ok hi
    rw [← z.2.1 j (by omega)]
    exact sp_charAt hi (by omega)
  · exact sw_charAt w hj s.1
