/-! StringBuilder -/
section RW81
variable {X : XT} {mt : MT} {d kc ks kc' ks' pc : Nat} {ls ls' : List (Nat × Value)} {st : List Value} {h : AH} {Q : Res → AH → Prop}
theorem e_S1 {mt' : MT} {idx n mc ms : Nat} {as stk : List Value} {v : Value} {h' : AH} (hd : decode (mB mt) pc = .ok (.invokestatic idx, 3)) (hl : Cond.methodLink (mN mt).cls idx (mN mt') ∈ lw_tb2 ∧ Cond.static (mN mt') ∈ lw_tb2) (hce : CE mt' n) (hc' : AC mt' d mc ms as h (Qe (some v) h')) (hn : as.length = n) (hstk : stk = as.reverse ++ st) (hst : (st.map fun v => v.category).sum ≤ 8) (e1 : kc' = kc + mc) (e2 : ks' = ks + ms) (hok : (∀ q ∈ ls, okd (hN h) q.2) ∧ ∀ v ∈ st, okd (hN h) v) (kk : AW X mt (d + 1) kc ks (pc + 3) ls (v :: st) h' Q) : AW X mt (d + 1) kc' ks' pc ls stk h Q := by
  subst e1 e2
  exact a_callS hd hl hce hc' hn hstk hst Qe_nt (Or.inr hok) (kk_of kk)
theorem e_V1 {mt' : MT} {idx n mc ms b ci : Nat} {as stk : List Value} {v : Value} {h' : AH} (hd : decode (mB mt) pc = .ok (.invokevirtual idx, 3)) (hl : Cond.methodLink (mN mt).cls idx (mN mt') ∈ lw_tb2 ∧ Cond.instanceMethod (mN mt') ∈ lw_tb2 ∧ Cond.selects (cR ci) (mN mt') (mN mt') ∈ lw_tb2) (hce : CE mt' n) (hs : kdA b = some (.inl ci)) (hb : prN (hN h) b) (hc' : AC mt' d mc ms (.ref b :: as) h (Qe (some v) h')) (hn : as.length = n) (hstk : stk = as.reverse ++ .ref b :: st) (hst : (st.map fun v => v.category).sum ≤ 8) (e1 : kc' = kc + mc) (e2 : ks' = ks + ms) (hok : (∀ q ∈ ls, okd (hN h) q.2) ∧ ∀ v ∈ st, okd (hN h) v) (kk : AW X mt (d + 1) kc ks (pc + 3) ls (v :: st) h' Q) : AW X mt (d + 1) kc' ks' pc ls stk h Q := by
  subst e1 e2
  exact g_callV hd hl hce hs hb hc' hn hstk hst Qe_nt (Or.inr hok) (kk_of kk)
theorem e_S0 {mt' : MT} {idx n mc ms : Nat} {as stk : List Value} {h' : AH} (hd : decode (mB mt) pc = .ok (.invokestatic idx, 3)) (hl : Cond.methodLink (mN mt).cls idx (mN mt') ∈ lw_tb2 ∧ Cond.static (mN mt') ∈ lw_tb2) (hce : CE mt' n) (hc' : AC mt' d mc ms as h (Qe none h')) (hn : as.length = n) (hstk : stk = as.reverse ++ st) (hst : (st.map fun v => v.category).sum ≤ 8) (e1 : kc' = kc + mc) (e2 : ks' = ks + ms) (hok : (∀ q ∈ ls, okd (hN h) q.2) ∧ ∀ v ∈ st, okd (hN h) v) (kk : AW X mt (d + 1) kc ks (pc + 3) ls st h' Q) : AW X mt (d + 1) kc' ks' pc ls stk h Q := by
  subst e1 e2
  exact a_callS hd hl hce hc' hn hstk hst Qe_nt (Or.inr hok) (kk_of kk)
theorem e_V0 {mt' : MT} {idx n mc ms b ci : Nat} {as stk : List Value} {h' : AH} (hd : decode (mB mt) pc = .ok (.invokevirtual idx, 3)) (hl : Cond.methodLink (mN mt).cls idx (mN mt') ∈ lw_tb2 ∧ Cond.instanceMethod (mN mt') ∈ lw_tb2 ∧ Cond.selects (cR ci) (mN mt') (mN mt') ∈ lw_tb2) (hce : CE mt' n) (hs : kdA b = some (.inl ci)) (hb : prN (hN h) b) (hc' : AC mt' d mc ms (.ref b :: as) h (Qe none h')) (hn : as.length = n) (hstk : stk = as.reverse ++ .ref b :: st) (hst : (st.map fun v => v.category).sum ≤ 8) (e1 : kc' = kc + mc) (e2 : ks' = ks + ms) (hok : (∀ q ∈ ls, okd (hN h) q.2) ∧ ∀ v ∈ st, okd (hN h) v) (kk : AW X mt (d + 1) kc ks (pc + 3) ls st h' Q) : AW X mt (d + 1) kc' ks' pc ls stk h Q := by
  subst e1 e2
  exact g_callV hd hl hce hs hb hc' hn hstk hst Qe_nt (Or.inr hok) (kk_of kk)
theorem e_I0 {mt' : MT} {idx n mc ms b : Nat} {as stk : List Value} {h' : AH} (hd : decode (mB mt) pc = .ok (.invokespecial idx, 3)) (hl : Cond.methodLink (mN mt).cls idx (mN mt') ∈ lw_tb2 ∧ Cond.instanceMethod (mN mt') ∈ lw_tb2) (hnm : (mN mt').name = "<init>") (hret : mR mt' = none) (hce : CE mt' n) (hc' : AC mt' d mc ms (.ref b :: as) h (Qe none h')) (hn : as.length = n) (hstk : stk = as.reverse ++ .ref b :: st) (hst : (st.map fun v => v.category).sum ≤ 8) (e1 : kc' = kc + mc) (e2 : ks' = ks + ms) (hok : (∀ q ∈ ls, okd (hN h) q.2) ∧ ∀ v ∈ st, okd (hN h) v) (kk : AW X mt (d + 1) kc ks (pc + 3) ls st h' Q) : AW X mt (d + 1) kc' ks' pc ls stk h Q := by
  subst e1 e2
  exact a_callI hd hl hnm hret hce hc' hn hstk hst Qe_nt (Or.inr hok) (kk_of kk)
end RW81
theorem rI_same {h : AH} {a : Nat} : rI h a (hI h a) = h := by
  have e : upr (hI h) a (hI h a) = hI h := funext fun b => by
    unfold upr
    by_cases q : b = a
    · rw [if_pos q, q]
    · rw [if_neg q]
  show (hN h, upr (hI h) a (hI h a), hL h, hR h) = h
  rw [e]
  rfl
/-- a StringBuilder of 16 bytes that holds T, its bytes at v -/
def SBd (h : AH) (b v : Nat) (T : List Nat) : Prop := (kdA b = some (.inl 8) ∧ prN (hN h) b) ∧ hI h b 1 = nI 0 ∧ hR h b 0 = some v ∧ (kdA v = some (.inr (1, 16)) ∧ prN (hN h) v) ∧ hI h b 3 = nI T.length ∧ T.length ≤ 16 ∧ ∀ j, j < T.length → hI h v j = nI (T.getD j 0)
theorem le16 {m : Nat} (hm : m ≤ 16) : nI m - nI 16 ≤ 0 := by
  have h : ∀ m : Fin 17, nI m.val - nI 16 ≤ 0 := by decide +kernel
  exact h ⟨m, by omega⟩
set_option maxHeartbeats 1500000 in
set_option maxRecDepth 100000 in
theorem sb_ensure {d b v : Nat} {T : List Nat} {h : AH} (s : SBd h b v T) {m : Nat} (hm : m ≤ 16) : AC mJ5_ensureCapacityInternal_d00df d 0 0 [.ref b, .int (nI m)] h (Qe none h) := by
  have hl := s.2.2.2.2.2.1
  refine AC.of (by decide) rfl (Nat.le_of_ble_eq_true rfl) (fun X => ?_)
  show AW X mJ5_ensureCapacityInternal_d00df d 0 0 0 [(0, .ref b), (1, .int (nI m))] [] h (Qe none h)
  refine a_aload_n (pc := 0) (i := 0) dJ5_ensureCapacityInternal_d00df_0 rfl rfl ?_
  refine g_getR (pc := 1) (ci := 8) (k := 0) (b := v) dJ5_ensureCapacityInternal_d00df_1 (lf_RJ5_15 rfl) (by decide) rfl s.1.1 s.1.2 s.2.2.1 ?_
  refine g_alen (pc := 4) (n := 16) dJ5_ensureCapacityInternal_d00df_4 s.2.2.2.1.1 s.2.2.2.1.2 ?_
  refine a_aload_n (pc := 5) (i := 0) dJ5_ensureCapacityInternal_d00df_5 rfl rfl ?_
  refine g_getI (pc := 6) (ci := 8) (k := 1) dJ5_ensureCapacityInternal_d00df_6 (lf_RJ5_22 rfl) (by decide) rfl s.1.1 s.1.2 ?_
  refine a_top (show (.int (hI h b 1) : Value) = .int (nI 0) from congrArg Value.int s.2.1) ?_
  refine a_ishr (pc := 9) dJ5_ensureCapacityInternal_d00df_9 ?_
  refine a_top (show (.int ((nI 16) >>> ((nI 0) &&& 31)) : Value) = .int (nI 16) from congrArg Value.int (shr0 (by omega)).1) ?_
  refine a_istore_n (pc := 10) (i := 2) (ls' := [(0, .ref b), (1, .int (nI m)), (2, .int (nI 16))]) dJ5_ensureCapacityInternal_d00df_10 rfl (by decide) rfl ?_
  refine a_iload_n (pc := 11) (i := 1) dJ5_ensureCapacityInternal_d00df_11 rfl rfl ?_
  refine a_iload_n (pc := 12) (i := 2) dJ5_ensureCapacityInternal_d00df_12 rfl rfl ?_
  refine a_isub (pc := 13) dJ5_ensureCapacityInternal_d00df_13 ?_
  refine a_if_le (pc := 14) (tgt := 38) dJ5_ensureCapacityInternal_d00df_14 (by decide) (fun c14 => ?_) (fun c14 => ?_)
  · skip
    exact a_return (pc := 38) dJ5_ensureCapacityInternal_d00df_38 rfl (⟨rfl, rfl⟩)
  · exact absurd (le16 hm) c14
set_option maxHeartbeats 1500000 in
set_option maxRecDepth 100000 in
theorem sb_isLatin1 {d b v : Nat} {T : List Nat} {h : AH} (s : SBd h b v T) : AC mJ5_isLatin1_aae02 d 0 0 [.ref b] h (Qe (some (.int (nI 1))) h) := by
  refine AC.of (by decide) rfl (Nat.le_of_ble_eq_true rfl) (fun X => ?_)
  show AW X mJ5_isLatin1_aae02 d 0 0 0 [(0, .ref b)] [] h (Qe (some (.int (nI 1))) h)
  refine a_getCS (pc := 0) dJ5_isLatin1_aae02_0 (by decide +kernel) ?_
  refine a_top (show (.int 1 : Value) = .int (nI 1) from rfl) ?_
  refine n_if_eq (pc := 3) (tgt := 17) dJ5_isLatin1_aae02_3 (by decide) (by omega) (fun c3 => ?_) (fun c3 => ?_)
  · exact absurd c3 (by decide)
  · skip
    refine a_aload_n (pc := 6) (i := 0) dJ5_isLatin1_aae02_6 rfl rfl ?_
    refine g_getI (pc := 7) (ci := 8) (k := 1) dJ5_isLatin1_aae02_7 (lf_RJ5_22 rfl) (by decide) rfl s.1.1 s.1.2 ?_
    refine a_top (show (.int (hI h b 1) : Value) = .int (nI 0) from congrArg Value.int s.2.1) ?_
    refine n_if_ne (pc := 10) (tgt := 17) dJ5_isLatin1_aae02_10 (by decide) (by omega) (fun c10 => ?_) (fun c10 => ?_)
    · exact absurd c10 (by decide)
    · skip
      refine a_iconst (pc := 13) (v := nI 1) dJ5_isLatin1_aae02_13 (by decide) ?_
      refine a_goto (pc := 14) (tgt := 18) dJ5_isLatin1_aae02_14 (by decide) ?_
      exact a_ireturn (pc := 18) dJ5_isLatin1_aae02_18 rfl rfl (⟨rfl, rfl⟩)
set_option maxHeartbeats 1500000 in
set_option maxRecDepth 100000 in
theorem sb_inflate {d b v : Nat} {T : List Nat} {h : AH} (s : SBd h b v T) {r : Nat} {U : List Nat} (u : STR h r U) : AC mJ5_inflateIfNeededFor_a7421 (d + 1) 0 0 [.ref b, .ref r] h (Qe none h) := by
  refine AC.of (by decide) rfl (Nat.le_of_ble_eq_true rfl) (fun X => ?_)
  show AW X mJ5_inflateIfNeededFor_a7421 (d + 1) 0 0 0 [(0, .ref b), (1, .ref r)] [] h (Qe none h)
  refine a_getCS (pc := 0) dJ5_inflateIfNeededFor_a7421_0 (by decide +kernel) ?_
  refine a_top (show (.int 1 : Value) = .int (nI 1) from rfl) ?_
  refine n_if_eq (pc := 3) (tgt := 21) dJ5_inflateIfNeededFor_a7421_3 (by decide) (by omega) (fun c3 => ?_) (fun c3 => ?_)
  · exact absurd c3 (by decide)
  · skip
    refine a_aload_n (pc := 6) (i := 0) dJ5_inflateIfNeededFor_a7421_6 rfl rfl ?_
    refine g_getI (pc := 7) (ci := 8) (k := 1) dJ5_inflateIfNeededFor_a7421_7 (lf_RJ5_22 rfl) (by decide) rfl s.1.1 s.1.2 ?_
    refine a_top (show (.int (hI h b 1) : Value) = .int (nI 0) from congrArg Value.int s.2.1) ?_
    refine a_aload_n (pc := 10) (i := 1) dJ5_inflateIfNeededFor_a7421_10 rfl rfl ?_
    refine g_vStr1 (pc := 11) (as := []) (b := r) (v := .int (nI 0)) (h' := h) dJ5_inflateIfNeededFor_a7421_11 (lc_RJ5_40 rfl) ceJ0_coder_7d493 u.ok (s_coder u) rfl rfl (Nat.le_of_ble_eq_true rfl) rfl ?_
    refine n_icmp_eq (pc := 14) (tgt := 21) dJ5_inflateIfNeededFor_a7421_14 (by decide) (by omega) (by omega) (fun c14 => ?_) (fun c14 => ?_)
    · skip
      exact a_return (pc := 21) dJ5_inflateIfNeededFor_a7421_21 rfl (⟨rfl, rfl⟩)
    · exact absurd rfl c14
set_option maxHeartbeats 1500000 in
set_option maxRecDepth 100000 in
theorem sw_getBytes {d r x v n : Nat} {U : List Nat} {h : AH} (w : SWv h r x U) (hU : ∀ j, U.getD j 0 < 128) (hv : kdA v = some (.inr (1, 16)) ∧ prN (hN h) v) (hn : n + U.length ≤ 16) : AC mJ0_getBytes_840e7 (d + 1) 0 0 [.ref r, .ref v, .int (nI n), .int (nI 0)] h (Qe none (rI h v (fun j => if n ≤ j ∧ j < n + U.length then nI (U.getD (j - n) 0) else hI h v j))) := by
  refine AC.of (by decide) rfl (Nat.le_of_ble_eq_true rfl) (fun X => ?_)
  show AW X mJ0_getBytes_840e7 (d + 1) 0 0 0 [(0, .ref r), (1, .ref v), (2, .int (nI n)), (3, .int (nI 0))] [] h (Qe none (rI h v (fun j => if n ≤ j ∧ j < n + U.length then nI (U.getD (j - n) 0) else hI h v j)))
  refine a_aload_n (pc := 0) (i := 0) dJ0_getBytes_840e7_0 rfl rfl ?_
  refine g_vStr1 (pc := 1) (as := []) (b := r) (v := .int (nI 0)) (h' := h) dJ0_getBytes_840e7_1 (lc_RJ0_335 rfl) ceJ0_coder_7d493 (Or.inr ⟨w.1.2, w.1.1⟩) (sw_coder w) rfl rfl (Nat.le_of_ble_eq_true rfl) rfl ?_
  refine a_iload_n (pc := 4) (i := 3) dJ0_getBytes_840e7_4 rfl rfl ?_
  refine n_icmp_ne (pc := 5) (tgt := 28) dJ0_getBytes_840e7_5 (by decide) (by omega) (by omega) (fun c5 => ?_) (fun c5 => ?_)
  · exact absurd rfl c5
  · skip
    refine a_aload_n (pc := 8) (i := 0) dJ0_getBytes_840e7_8 rfl rfl ?_
    refine g_getR (pc := 9) (ci := 7) (k := 0) (b := x) dJ0_getBytes_840e7_9 (lf_RJ0_9 rfl) (by decide) rfl w.1.1 w.1.2 w.2.2.1 ?_
    refine a_iconst (pc := 12) (v := nI 0) dJ0_getBytes_840e7_12 (by decide) ?_
    refine a_aload_n (pc := 13) (i := 1) dJ0_getBytes_840e7_13 rfl rfl ?_
    refine a_iload_n (pc := 14) (i := 2) dJ0_getBytes_840e7_14 rfl rfl ?_
    refine a_iload_n (pc := 15) (i := 3) dJ0_getBytes_840e7_15 rfl rfl ?_
    refine a_ishl (pc := 16) dJ0_getBytes_840e7_16 ?_
    refine a_top (show (.int ((nI n) <<< ((nI 0) &&& 31)) : Value) = .int (nI n) from congrArg Value.int (shr0 (by omega)).2) ?_
    refine a_aload_n (pc := 17) (i := 0) dJ0_getBytes_840e7_17 rfl rfl ?_
    refine g_getR (pc := 18) (ci := 7) (k := 0) (b := x) dJ0_getBytes_840e7_18 (lf_RJ0_9 rfl) (by decide) rfl w.1.1 w.1.2 w.2.2.1 ?_
    refine g_alen (pc := 21) (n := U.length) dJ0_getBytes_840e7_21 w.2.2.2.1.1 w.2.2.2.1.2 ?_
    refine g_copy (pc := 22) (a := x) (b := v) (n1 := U.length) (n2 := 16) (t := 1) (sp := 0) (dp := n) (n := U.length) dJ0_getBytes_840e7_22 (tbi 1070 (by decide +kernel)) w.2.2.2.1.1 hv.1 (by decide) w.2.2.2.1.2 hv.2 rfl rfl rfl (by omega) (by omega) (fun _ i hi => by rw [Nat.zero_add, w.2.2.2.2.2 i hi]; exact (by decide +kernel : ∀ c : Fin 128, fits .byte (.int (nI c.val)) = true) ⟨_, hU i⟩) (Nat.le_of_ble_eq_true rfl) ?_
    refine a_heap (h' := rI h v (fun j => if n ≤ j ∧ j < n + U.length then nI (U.getD (j - n) 0) else hI h v j)) (congrArg (rI h v) (funext fun j => ?_)) ?_
    · unfold va_cpy
      by_cases q : n ≤ j ∧ j < n + U.length
      · rw [if_pos q, if_pos q, Nat.zero_add, w.2.2.2.2.2 (j - n) (by omega)]
      · rw [if_neg q, if_neg q]
    refine a_goto (pc := 25) (tgt := 43) dJ0_getBytes_840e7_25 (by decide) ?_
    exact a_return (pc := 43) dJ0_getBytes_840e7_43 rfl (⟨rfl, rfl⟩)
set_option maxHeartbeats 1500000 in
set_option maxRecDepth 100000 in
theorem sp_getBytes0 {d i v n : Nat} {h : AH} (hi : i < 14) (h0 : zLen.getD i 0 = 0) (hv : kdA v = some (.inr (1, 16)) ∧ prN (hN h) v) (hn : n ≤ 16) : AC mJ0_getBytes_840e7 (d + 1) 0 0 [.ref (1001 + i), .ref v, .int (nI n), .int (nI 0)] h (Qe none h) := by
  refine AC.of (by decide) rfl (Nat.le_of_ble_eq_true rfl) (fun X => ?_)
  show AW X mJ0_getBytes_840e7 (d + 1) 0 0 0 [(0, .ref (1001 + i)), (1, .ref v), (2, .int (nI n)), (3, .int (nI 0))] [] h (Qe none h)
  refine a_aload_n (pc := 0) (i := 0) dJ0_getBytes_840e7_0 rfl rfl ?_
  refine a_vStr (pc := 1) (i := i) (as := []) (v := .int (nI 0)) (h' := h) dJ0_getBytes_840e7_1 (lc_RJ0_335 rfl) ceJ0_coder_7d493 (by assumption) (sp_coder hi) rfl rfl (Nat.le_of_ble_eq_true rfl) rfl ?_
  refine a_iload_n (pc := 4) (i := 3) dJ0_getBytes_840e7_4 rfl rfl ?_
  refine n_icmp_ne (pc := 5) (tgt := 28) dJ0_getBytes_840e7_5 (by decide) (by omega) (by omega) (fun c5 => ?_) (fun c5 => ?_)
  · exact absurd rfl c5
  · skip
    refine a_aload_n (pc := 8) (i := 0) dJ0_getBytes_840e7_8 rfl rfl ?_
    refine a_strV (pc := 9) (i := i) dJ0_getBytes_840e7_9 (by decide +kernel) (by assumption) ?_
    refine a_iconst (pc := 12) (v := nI 0) dJ0_getBytes_840e7_12 (by decide) ?_
    refine a_aload_n (pc := 13) (i := 1) dJ0_getBytes_840e7_13 rfl rfl ?_
    refine a_iload_n (pc := 14) (i := 2) dJ0_getBytes_840e7_14 rfl rfl ?_
    refine a_iload_n (pc := 15) (i := 3) dJ0_getBytes_840e7_15 rfl rfl ?_
    refine a_ishl (pc := 16) dJ0_getBytes_840e7_16 ?_
    refine a_top (show (.int ((nI n) <<< ((nI 0) &&& 31)) : Value) = .int (nI n) from congrArg Value.int (shr0 (by omega)).2) ?_
    refine a_aload_n (pc := 17) (i := 0) dJ0_getBytes_840e7_17 rfl rfl ?_
    refine a_strV (pc := 18) (i := i) dJ0_getBytes_840e7_18 (by decide +kernel) (by assumption) ?_
    refine a_strL (pc := 21) (i := i) dJ0_getBytes_840e7_21 (by assumption) ?_
    refine a_top (show (.int (nI (zLen.getD i 0)) : Value) = .int (nI 0) from by rw [h0]) ?_
    refine g_copy0 (pc := 22) (i := i) (n2 := 16) (dp := n) dJ0_getBytes_840e7_22 (tbi 1070 (by decide +kernel)) hi hv.1 hv.2 rfl (by omega) (Nat.le_of_ble_eq_true rfl) ?_
    refine a_goto (pc := 25) (tgt := 43) dJ0_getBytes_840e7_25 (by decide) ?_
    exact a_return (pc := 43) dJ0_getBytes_840e7_43 rfl (⟨rfl, rfl⟩)
/-- a text that append takes: of the world, or empty -/
def STA (h : AH) (r : Nat) (U : List Nat) : Prop := STR h r U ∧ ((∃ x, SWv h r x U) ∨ U = [])
theorem s_getBytes {d r v n : Nat} {U : List Nat} {h : AH} (u : STA h r U) (hv : kdA v = some (.inr (1, 16)) ∧ prN (hN h) v) (hn : n + U.length ≤ 16) : AC mJ0_getBytes_840e7 (d + 1) 0 0 [.ref r, .ref v, .int (nI n), .int (nI 0)] h (Qe none (rI h v (fun j => if n ≤ j ∧ j < n + U.length then nI (U.getD (j - n) 0) else hI h v j))) := by
  rcases u.1.2 with ⟨i, hi, rfl, hz⟩ | ⟨x, w⟩
  · rcases u.2 with ⟨x, w⟩ | rfl
    · exact sw_getBytes w u.1.1 hv hn
    · have e : (rI h v (fun j => if n ≤ j ∧ j < n + ([] : List Nat).length then nI (([] : List Nat).getD (j - n) 0) else hI h v j)) = h := by
        have e2 : (fun j => if n ≤ j ∧ j < n + ([] : List Nat).length then nI (([] : List Nat).getD (j - n) 0) else hI h v j) = hI h v := funext fun j => if_neg (by simp only [List.length_nil]; omega)
        rw [e2]
        exact rI_same
      rw [e]
      exact sp_getBytes0 hi (by rw [← (zT_ok hi).1, ← hz]; rfl) hv (by simpa using hn)
  · exact sw_getBytes w u.1.1 hv hn
set_option maxHeartbeats 1500000 in
set_option maxRecDepth 100000 in
theorem sb_putString {d b v : Nat} {T : List Nat} {h : AH} (s : SBd h b v T) {r : Nat} {U : List Nat} (u : STA h r U) (hn : T.length + U.length ≤ 16) : AC mJ5_putStringAt_47b60 (d + 2) 0 0 [.ref b, .int (nI T.length), .ref r] h (Qe none (rI h v (fun j => if T.length ≤ j ∧ j < T.length + U.length then nI (U.getD (j - T.length) 0) else hI h v j))) := by
  refine AC.of (by decide) rfl (Nat.le_of_ble_eq_true rfl) (fun X => ?_)
  show AW X mJ5_putStringAt_47b60 (d + 2) 0 0 0 [(0, .ref b), (1, .int (nI T.length)), (2, .ref r)] [] h (Qe none (rI h v (fun j => if T.length ≤ j ∧ j < T.length + U.length then nI (U.getD (j - T.length) 0) else hI h v j)))
  refine a_aload_n (pc := 0) (i := 0) dJ5_putStringAt_47b60_0 rfl rfl ?_
  refine a_aload_n (pc := 1) (i := 2) dJ5_putStringAt_47b60_1 rfl rfl ?_
  refine g_vU0 (pc := 2) (as := [.ref r]) (b := b) (ci := 8) (h' := h) dJ5_putStringAt_47b60_2 (lc_RJ5_397 rfl) ceJ5_inflateIfNeededFor_a7421 s.1.1 s.1.2 (sb_inflate s u.1) rfl rfl (Nat.le_of_ble_eq_true rfl) rfl ?_
  refine a_aload_n (pc := 5) (i := 2) dJ5_putStringAt_47b60_5 rfl rfl ?_
  refine a_aload_n (pc := 6) (i := 0) dJ5_putStringAt_47b60_6 rfl rfl ?_
  refine g_getR (pc := 7) (ci := 8) (k := 0) (b := v) dJ5_putStringAt_47b60_7 (lf_RJ5_15 rfl) (by decide) rfl s.1.1 s.1.2 s.2.2.1 ?_
  refine a_iload_n (pc := 10) (i := 1) dJ5_putStringAt_47b60_10 rfl rfl ?_
  refine a_aload_n (pc := 11) (i := 0) dJ5_putStringAt_47b60_11 rfl rfl ?_
  refine g_getI (pc := 12) (ci := 8) (k := 1) dJ5_putStringAt_47b60_12 (lf_RJ5_22 rfl) (by decide) rfl s.1.1 s.1.2 ?_
  refine a_top (show (.int (hI h b 1) : Value) = .int (nI 0) from congrArg Value.int s.2.1) ?_
  refine g_vStr0 (pc := 15) (as := [.ref v, .int (nI T.length), .int (nI 0)]) (b := r) (h' := (rI h v (fun j => if T.length ≤ j ∧ j < T.length + U.length then nI (U.getD (j - T.length) 0) else hI h v j))) dJ5_putStringAt_47b60_15 (lc_RJ5_399 rfl) ceJ0_getBytes_840e7 u.1.ok (s_getBytes u s.2.2.2.1 hn) rfl rfl (Nat.le_of_ble_eq_true rfl) rfl ?_
  exact a_return (pc := 18) dJ5_putStringAt_47b60_18 rfl (⟨rfl, rfl⟩)
set_option maxHeartbeats 1500000 in
set_option maxRecDepth 100000 in
theorem sb_append5 {d b v : Nat} {T : List Nat} {h : AH} (s : SBd h b v T) {r : Nat} {U : List Nat} (u : STA h r U) (hn : T.length + U.length ≤ 16) : AC mJ5_append_cf1ce (d + 3) 0 0 [.ref b, .ref r] h (Qe (some (.ref b)) (sI (rI h v (fun j => if T.length ≤ j ∧ j < T.length + U.length then nI (U.getD (j - T.length) 0) else hI h v j)) b 3 (nI (T.length + U.length)))) := by
  have hbv : ¬ b = v := fun e => by have h1 := s.1.1; rw [e, s.2.2.2.1.1] at h1; cases h1
  refine AC.of (by decide) rfl (Nat.le_of_ble_eq_true rfl) (fun X => ?_)
  show AW X mJ5_append_cf1ce (d + 3) 0 0 0 [(0, .ref b), (1, .ref r)] [] h (Qe (some (.ref b)) (sI (rI h v (fun j => if T.length ≤ j ∧ j < T.length + U.length then nI (U.getD (j - T.length) 0) else hI h v j)) b 3 (nI (T.length + U.length))))
  refine a_wf (fun hw => ?_)
  refine a_aload_n (pc := 0) (i := 1) dJ5_append_cf1ce_0 rfl rfl ?_
  refine a_ifnonnull (pc := 1) (tgt := 9) dJ5_append_cf1ce_1 (by decide) ?_
  refine a_aload_n (pc := 9) (i := 1) dJ5_append_cf1ce_9 rfl rfl ?_
  refine g_vStr1 (pc := 10) (as := []) (b := r) (v := .int (nI U.length)) (h' := h) dJ5_append_cf1ce_10 (lc_RJ5_32 rfl) ceJ0_length_8abf5 u.1.ok (s_len u.1) rfl rfl (Nat.le_of_ble_eq_true rfl) rfl ?_
  refine a_istore_n (pc := 13) (i := 2) (ls' := [(0, .ref b), (1, .ref r), (2, .int (nI U.length))]) dJ5_append_cf1ce_13 rfl (by decide) rfl ?_
  refine a_aload_n (pc := 14) (i := 0) dJ5_append_cf1ce_14 rfl rfl ?_
  refine a_aload_n (pc := 15) (i := 0) dJ5_append_cf1ce_15 rfl rfl ?_
  refine g_getI (pc := 16) (ci := 8) (k := 3) dJ5_append_cf1ce_16 (lf_RJ5_79 rfl) (by decide) rfl s.1.1 s.1.2 ?_
  refine a_top (show (.int (hI h b 3) : Value) = .int (nI T.length) from congrArg Value.int s.2.2.2.2.1) ?_
  refine a_iload_n (pc := 19) (i := 2) dJ5_append_cf1ce_19 rfl rfl ?_
  refine n_iadd (pc := 20) dJ5_append_cf1ce_20 ?_
  refine g_vU0 (pc := 21) (as := [.int (nI (T.length + U.length))]) (b := b) (ci := 8) (h' := h) dJ5_append_cf1ce_21 (lc_RJ5_100 rfl) ceJ5_ensureCapacityInternal_d00df s.1.1 s.1.2 (sb_ensure s hn) rfl rfl (Nat.le_of_ble_eq_true rfl) rfl ?_
  refine a_aload_n (pc := 24) (i := 0) dJ5_append_cf1ce_24 rfl rfl ?_
  refine a_aload_n (pc := 25) (i := 0) dJ5_append_cf1ce_25 rfl rfl ?_
  refine g_getI (pc := 26) (ci := 8) (k := 3) dJ5_append_cf1ce_26 (lf_RJ5_79 rfl) (by decide) rfl s.1.1 s.1.2 ?_
  refine a_top (show (.int (hI h b 3) : Value) = .int (nI T.length) from congrArg Value.int s.2.2.2.2.1) ?_
  refine a_aload_n (pc := 29) (i := 1) dJ5_append_cf1ce_29 rfl rfl ?_
  refine g_vU0 (pc := 30) (as := [.int (nI T.length), .ref r]) (b := b) (ci := 8) (h' := (rI h v (fun j => if T.length ≤ j ∧ j < T.length + U.length then nI (U.getD (j - T.length) 0) else hI h v j))) dJ5_append_cf1ce_30 (lc_RJ5_208 rfl) ceJ5_putStringAt_47b60 s.1.1 s.1.2 (sb_putString s u hn) rfl rfl (Nat.le_of_ble_eq_true rfl) rfl ?_
  refine a_aload_n (pc := 33) (i := 0) dJ5_append_cf1ce_33 rfl rfl ?_
  refine a_dup (pc := 34) dJ5_append_cf1ce_34 rfl ?_
  refine g_getI (pc := 35) (ci := 8) (k := 3) dJ5_append_cf1ce_35 (lf_RJ5_79 rfl) (by decide) rfl s.1.1 s.1.2 ?_
  refine a_top (show (.int (hI (rI h v (fun j => if T.length ≤ j ∧ j < T.length + U.length then nI (U.getD (j - T.length) 0) else hI h v j)) b 3) : Value) = .int (nI T.length) from congrArg Value.int ((congrFun (if_neg hbv : hI (rI h v (fun j => if T.length ≤ j ∧ j < T.length + U.length then nI (U.getD (j - T.length) 0) else hI h v j)) b = hI h b) 3).trans s.2.2.2.2.1)) ?_
  refine a_iload_n (pc := 38) (i := 2) dJ5_append_cf1ce_38 rfl rfl ?_
  refine n_iadd (pc := 39) dJ5_append_cf1ce_39 ?_
  refine g_putI (pc := 40) (ci := 8) (k := 3) dJ5_append_cf1ce_40 (lf_RJ5_79 rfl) (by decide) (Or.inl rfl) s.1.1 s.1.2 rfl ?_
  refine a_aload_n (pc := 43) (i := 0) dJ5_append_cf1ce_43 rfl rfl ?_
  exact a_areturn (pc := 44) dJ5_append_cf1ce_44 rfl rfl (prN_ne hw.1 s.1.2) (⟨rfl, rfl⟩)
set_option maxHeartbeats 1500000 in
set_option maxRecDepth 100000 in
theorem sb_append {d b v : Nat} {T : List Nat} {h : AH} (s : SBd h b v T) {r : Nat} {U : List Nat} (u : STA h r U) (hn : T.length + U.length ≤ 16) : AC mJ4_append_15ec4 (d + 4) 0 0 [.ref b, .ref r] h (Qe (some (.ref b)) (sI (rI h v (fun j => if T.length ≤ j ∧ j < T.length + U.length then nI (U.getD (j - T.length) 0) else hI h v j)) b 3 (nI (T.length + U.length)))) := by
  refine AC.of (by decide) rfl (Nat.le_of_ble_eq_true rfl) (fun X => ?_)
  show AW X mJ4_append_15ec4 (d + 4) 0 0 0 [(0, .ref b), (1, .ref r)] [] h (Qe (some (.ref b)) (sI (rI h v (fun j => if T.length ≤ j ∧ j < T.length + U.length then nI (U.getD (j - T.length) 0) else hI h v j)) b 3 (nI (T.length + U.length))))
  refine a_wf (fun hw => ?_)
  refine a_aload_n (pc := 0) (i := 0) dJ4_append_15ec4_0 rfl rfl ?_
  refine a_aload_n (pc := 1) (i := 1) dJ4_append_15ec4_1 rfl rfl ?_
  refine g_vP1 (pc := 2) (as := [.ref r]) (b := b) (ci := 8) (v := .ref b) (h' := (sI (rI h v (fun j => if T.length ≤ j ∧ j < T.length + U.length then nI (U.getD (j - T.length) 0) else hI h v j)) b 3 (nI (T.length + U.length)))) dJ4_append_15ec4_2 (lc_RJ4_29 rfl) (by decide) ceJ5_append_cf1ce s.1.1 s.1.2 (sb_append5 s u hn) rfl rfl (Nat.le_of_ble_eq_true rfl) rfl ?_
  refine a_pop (pc := 5) dJ4_append_15ec4_5 rfl ?_
  refine a_aload_n (pc := 6) (i := 0) dJ4_append_15ec4_6 rfl rfl ?_
  exact a_areturn (pc := 7) dJ4_append_15ec4_7 rfl rfl (prN_ne hw.1 s.1.2) (⟨rfl, rfl⟩)
set_option maxHeartbeats 1500000 in
set_option maxRecDepth 100000 in
theorem sp_canEncode {d c : Nat} {h : AH} (hc : c < 128) : AC mJ1_canEncode_fc78d d 0 0 [.int (nI c)] h (Qe (some (.int (nI 1))) h) := by
  refine AC.of (by decide) rfl (Nat.le_of_ble_eq_true rfl) (fun X => ?_)
  show AW X mJ1_canEncode_fc78d d 0 0 0 [(0, .int (nI c))] [] h (Qe (some (.int (nI 1))) h)
  refine a_iload_n (pc := 0) (i := 0) dJ1_canEncode_fc78d_0 rfl rfl ?_
  refine a_sipush (pc := 1) (v := nI 255) dJ1_canEncode_fc78d_1 (by decide) ?_
  refine n_icmp_gt (pc := 4) (tgt := 11) dJ1_canEncode_fc78d_4 (by decide) (by omega) (by omega) (fun c4 => ?_) (fun c4 => ?_)
  · exact absurd c4 (by omega)
  · skip
    refine a_iconst (pc := 7) (v := nI 1) dJ1_canEncode_fc78d_7 (by decide) ?_
    refine a_goto (pc := 8) (tgt := 12) dJ1_canEncode_fc78d_8 (by decide) ?_
    exact a_ireturn (pc := 12) dJ1_canEncode_fc78d_12 rfl rfl (⟨rfl, rfl⟩)
set_option maxHeartbeats 1500000 in
set_option maxRecDepth 100000 in
theorem sb_appendC5 {d b v : Nat} {T : List Nat} {h : AH} (s : SBd h b v T) {c : Nat} (hc : c < 128) (hn : T.length + 1 ≤ 16) : AC mJ5_append_3fe6f (d + 1) 0 0 [.ref b, .int (nI c)] h (Qe (some (.ref b)) (sI (sI h b 3 (nI (T.length + 1))) v T.length (nI c))) := by
  refine AC.of (by decide) rfl (Nat.le_of_ble_eq_true rfl) (fun X => ?_)
  show AW X mJ5_append_3fe6f (d + 1) 0 0 0 [(0, .ref b), (1, .int (nI c))] [] h (Qe (some (.ref b)) (sI (sI h b 3 (nI (T.length + 1))) v T.length (nI c)))
  refine a_wf (fun hw => ?_)
  refine a_aload_n (pc := 0) (i := 0) dJ5_append_3fe6f_0 rfl rfl ?_
  refine a_aload_n (pc := 1) (i := 0) dJ5_append_3fe6f_1 rfl rfl ?_
  refine g_getI (pc := 2) (ci := 8) (k := 3) dJ5_append_3fe6f_2 (lf_RJ5_79 rfl) (by decide) rfl s.1.1 s.1.2 ?_
  refine a_top (show (.int (hI h b 3) : Value) = .int (nI T.length) from congrArg Value.int s.2.2.2.2.1) ?_
  refine a_iconst (pc := 5) (v := nI 1) dJ5_append_3fe6f_5 (by decide) ?_
  refine n_iadd (pc := 6) dJ5_append_3fe6f_6 ?_
  refine g_vU0 (pc := 7) (as := [.int (nI (T.length + 1))]) (b := b) (ci := 8) (h' := h) dJ5_append_3fe6f_7 (lc_RJ5_100 rfl) ceJ5_ensureCapacityInternal_d00df s.1.1 s.1.2 (sb_ensure s hn) rfl rfl (Nat.le_of_ble_eq_true rfl) rfl ?_
  refine a_aload_n (pc := 10) (i := 0) dJ5_append_3fe6f_10 rfl rfl ?_
  refine g_vU1 (pc := 11) (as := []) (b := b) (ci := 8) (v := .int (nI 1)) (h' := h) dJ5_append_3fe6f_11 (lc_RJ5_83 rfl) ceJ5_isLatin1_aae02 s.1.1 s.1.2 (sb_isLatin1 s) rfl rfl (Nat.le_of_ble_eq_true rfl) rfl ?_
  refine n_if_eq (pc := 14) (tgt := 45) dJ5_append_3fe6f_14 (by decide) (by omega) (fun c14 => ?_) (fun c14 => ?_)
  · exact absurd c14 (by decide)
  · skip
    refine a_iload_n (pc := 17) (i := 1) dJ5_append_3fe6f_17 rfl rfl ?_
    refine a_vS1 (pc := 18) (as := [.int (nI c)]) (v := .int (nI 1)) (h' := h) dJ5_append_3fe6f_18 (lc_RJ5_191 rfl) ceJ1_canEncode_fc78d (sp_canEncode hc) rfl rfl (Nat.le_of_ble_eq_true rfl) rfl ?_
    refine n_if_eq (pc := 21) (tgt := 45) dJ5_append_3fe6f_21 (by decide) (by omega) (fun c21 => ?_) (fun c21 => ?_)
    · exact absurd c21 (by decide)
    · skip
      refine a_aload_n (pc := 24) (i := 0) dJ5_append_3fe6f_24 rfl rfl ?_
      refine g_getR (pc := 25) (ci := 8) (k := 0) (b := v) dJ5_append_3fe6f_25 (lf_RJ5_15 rfl) (by decide) rfl s.1.1 s.1.2 s.2.2.1 ?_
      refine a_aload_n (pc := 28) (i := 0) dJ5_append_3fe6f_28 rfl rfl ?_
      refine a_dup (pc := 29) dJ5_append_3fe6f_29 rfl ?_
      refine g_getI (pc := 30) (ci := 8) (k := 3) dJ5_append_3fe6f_30 (lf_RJ5_79 rfl) (by decide) rfl s.1.1 s.1.2 ?_
      refine a_top (show (.int (hI h b 3) : Value) = .int (nI T.length) from congrArg Value.int s.2.2.2.2.1) ?_
      refine a_dup_x1 (pc := 33) dJ5_append_3fe6f_33 rfl rfl ?_
      refine a_iconst (pc := 34) (v := nI 1) dJ5_append_3fe6f_34 (by decide) ?_
      refine n_iadd (pc := 35) dJ5_append_3fe6f_35 ?_
      refine g_putI (pc := 36) (ci := 8) (k := 3) dJ5_append_3fe6f_36 (lf_RJ5_79 rfl) (by decide) (Or.inl rfl) s.1.1 s.1.2 rfl ?_
      refine a_iload_n (pc := 39) (i := 1) dJ5_append_3fe6f_39 rfl rfl ?_
      refine a_i2b (pc := 40) dJ5_append_3fe6f_40 ?_
      refine a_top (show (.int ((nI c).toInt8.toInt32) : Value) = .int (nI c) from congrArg Value.int (ch8 hc).2.2) ?_
      refine g_bast (pc := 41) (j := T.length) dJ5_append_3fe6f_41 s.2.2.2.1.1 s.2.2.2.1.2 rfl (by omega) ?_
      refine a_heap (h' := sI (sI h b 3 (nI (T.length + 1))) v T.length (nI c)) (by rw [(ch8 hc).2.2]) ?_
      refine a_goto (pc := 42) (tgt := 75) dJ5_append_3fe6f_42 (by decide) ?_
      refine a_aload_n (pc := 75) (i := 0) dJ5_append_3fe6f_75 rfl rfl ?_
      exact a_areturn (pc := 76) dJ5_append_3fe6f_76 rfl rfl (prN_ne hw.1 s.1.2) (⟨rfl, rfl⟩)
set_option maxHeartbeats 1500000 in
set_option maxRecDepth 100000 in
theorem sb_appendC {d b v : Nat} {T : List Nat} {h : AH} (s : SBd h b v T) {c : Nat} (hc : c < 128) (hn : T.length + 1 ≤ 16) : AC mJ4_append_cf468 (d + 2) 0 0 [.ref b, .int (nI c)] h (Qe (some (.ref b)) (sI (sI h b 3 (nI (T.length + 1))) v T.length (nI c))) := by
  refine AC.of (by decide) rfl (Nat.le_of_ble_eq_true rfl) (fun X => ?_)
  show AW X mJ4_append_cf468 (d + 2) 0 0 0 [(0, .ref b), (1, .int (nI c))] [] h (Qe (some (.ref b)) (sI (sI h b 3 (nI (T.length + 1))) v T.length (nI c)))
  refine a_wf (fun hw => ?_)
  refine a_aload_n (pc := 0) (i := 0) dJ4_append_cf468_0 rfl rfl ?_
  refine a_iload_n (pc := 1) (i := 1) dJ4_append_cf468_1 rfl rfl ?_
  refine g_vP1 (pc := 2) (as := [.int (nI c)]) (b := b) (ci := 8) (v := .ref b) (h' := (sI (sI h b 3 (nI (T.length + 1))) v T.length (nI c))) dJ4_append_cf468_2 (lc_RJ4_50 rfl) (by decide) ceJ5_append_3fe6f s.1.1 s.1.2 (sb_appendC5 s hc hn) rfl rfl (Nat.le_of_ble_eq_true rfl) rfl ?_
  refine a_pop (pc := 5) dJ4_append_cf468_5 rfl ?_
  refine a_aload_n (pc := 6) (i := 0) dJ4_append_cf468_6 rfl rfl ?_
  exact a_areturn (pc := 7) dJ4_append_cf468_7 rfl rfl (prN_ne hw.1 s.1.2) (⟨rfl, rfl⟩)
