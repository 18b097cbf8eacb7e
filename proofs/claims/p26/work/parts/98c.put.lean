/-! the collected text: put, write, writeNumber -/
section RW98
variable {X : XT} {mt : MT} {d kc ks pc : Nat} {ls ls' : List (Nat × Value)} {st : List Value} {h : AH} {Q : Res → AH → Prop}
theorem g_uS {mt' : MT} {idx n : Nat} {as stk : List Value} {R : AH → Prop} (hd : decode (mB mt) pc = .ok (.invokestatic idx, 3)) (hl : Cond.methodLink (mN mt).cls idx (mN mt') ∈ lw_tb2 ∧ Cond.static (mN mt') ∈ lw_tb2) (hce : CE mt' n) (hc' : AC mt' d 0 0 as h (Qu R)) (hn : as.length = n) (hstk : stk = as.reverse ++ st) (hst : (st.map fun v => v.category).sum ≤ 8) (hR : ∀ h2, R h2 → hN h2 = hN h) (kk : ∀ h2, R h2 → AW X mt (d + 1) kc ks (pc + 3) ls st h2 Q) : AW X mt (d + 1) kc ks pc ls stk h Q :=
  a_callS (mc := 0) (ms := 0) hd hl hce hc' hn hstk hst Qu_nt (hoku_of hR) (ku_of kk)
end RW98
theorem getD_app {T : List Nat} {c j : Nat} (h : j < T.length) : (T ++ [c]).getD j 0 = T.getD j 0 := by
  simp only [List.getD_eq_getElem?_getD, List.getElem?_append, if_pos h]
theorem sh24 {j : Nat} (hj : j < 4) : nI (24 - 8 * j) = nI 24 - nI 8 * nI j := by
  have key : ∀ j : Fin 4, nI (24 - 8 * j.1) = nI 24 - nI 8 * nI j.1 := by decide +kernel
  exact key ⟨j, hj⟩
/-- the object and the buffer hold the text T -/
def TXb (h : AH) (t0 : ST) (T : List Nat) : Prop := (∃ t, IM h t ∧ TA t0 t T (20 * (T.length / 20))) ∧ hI h 66 0 = nI T.length ∧ ∀ w, w < 5 → WB (hI h 66 (1 + w)) T (20 * (T.length / 20) + 4 * w)
def QTx (t0 : ST) (T : List Nat) (h h2 : AH) : Prop := TXb h2 t0 T ∧ Dq S67 0 h h2 ∧ hN h2 = hN h
set_option maxHeartbeats 1500000 in
set_option maxRecDepth 100000 in
theorem w_put {d c : Nat} {h : AH} {t0 : ST} {T : List Nat} (x : TXb h t0 T) (hc : c < 128) (hl : T.length < 370) : AC mL_put (d + 102) 0 0 [.ref 0, .ref 66, .int (nI c)] h (Qu (QTx t0 (T ++ [c]) h)) := by
  refine AC.of (by decide) rfl (Nat.le_of_ble_eq_true rfl) (fun X => ?_)
  show AW X mL_put (d + 102) 0 0 0 [(0, .ref 0), (1, .ref 66), (2, .int (nI c))] [] h (Qu (QTx t0 (T ++ [c]) h))
  obtain ⟨⟨t, m, ta⟩, h0, hw⟩ := x
  have hn := m.1.1.1
  have p66 : prN (hN h) 66 := prN_st (by omega) (by omega)
  refine a_aload_n (pc := 0) (i := 1) dL_put_0 rfl rfl ?_
  refine a_iconst (pc := 1) (v := nI 1) dL_put_1 (by decide) ?_
  refine a_aload_n (pc := 2) (i := 1) dL_put_2 rfl rfl ?_
  refine a_iconst (pc := 3) (v := nI 0) dL_put_3 (by decide) ?_
  refine g_iald (pc := 4) (j := 0) dL_put_4 k66 p66 rfl (by omega) ?_
  refine a_top (show (.int (hI h 66 0) : Value) = .int (nI T.length) from congrArg Value.int h0) ?_
  refine a_bipush (pc := 5) (v := nI 20) dL_put_5 (by decide) ?_
  refine n_irem (pc := 7) dL_put_7 (by omega) (by omega) (by omega) ?_
  refine a_iconst (pc := 8) (v := nI 4) dL_put_8 (by decide) ?_
  refine n_idiv (pc := 9) dL_put_9 (by omega) (by omega) (by omega) ?_
  refine n_iadd (pc := 10) dL_put_10 ?_
  refine a_dup2_11 (pc := 11) dL_put_11 rfl rfl ?_
  refine g_iald (pc := 12) (j := (1 + ((T.length % 20) / 4))) dL_put_12 k66 p66 rfl (by omega) ?_
  refine a_iload_n (pc := 13) (i := 2) dL_put_13 rfl rfl ?_
  refine a_bipush (pc := 14) (v := nI 24) dL_put_14 (by decide) ?_
  refine a_bipush (pc := 16) (v := nI 8) dL_put_16 (by decide) ?_
  refine a_aload_n (pc := 18) (i := 1) dL_put_18 rfl rfl ?_
  refine a_iconst (pc := 19) (v := nI 0) dL_put_19 (by decide) ?_
  refine g_iald (pc := 20) (j := 0) dL_put_20 k66 p66 rfl (by omega) ?_
  refine a_top (show (.int (hI h 66 0) : Value) = .int (nI T.length) from congrArg Value.int h0) ?_
  refine a_iconst (pc := 21) (v := nI 4) dL_put_21 (by decide) ?_
  refine n_irem (pc := 22) dL_put_22 (by omega) (by omega) (by omega) ?_
  refine n_imul (pc := 23) dL_put_23 ?_
  refine n_isub (pc := 24) dL_put_24 (by omega) ?_
  refine a_ishl (pc := 25) dL_put_25 ?_
  refine a_ior (pc := 26) dL_put_26 ?_
  refine g_iast (pc := 27) (j := (1 + ((T.length % 20) / 4))) dL_put_27 k66 p66 rfl (by omega) ?_
  refine a_aload_n (pc := 28) (i := 1) dL_put_28 rfl rfl ?_
  refine a_iconst (pc := 29) (v := nI 0) dL_put_29 (by decide) ?_
  refine a_dup2_11 (pc := 30) dL_put_30 rfl rfl ?_
  refine g_iald (pc := 31) (j := 0) dL_put_31 k66 p66 rfl (by omega) ?_
  refine a_top (show (.int (hI (sI h 66 (1 + ((T.length % 20) / 4)) ((hI h 66 (1 + ((T.length % 20) / 4))) ||| ((nI c) <<< ((nI (24 - (8 * (T.length % 4)))) &&& 31)))) 66 0) : Value) = .int (nI T.length) from congrArg Value.int (by rw [hI_sI, if_neg (fun z => absurd z.2 (by omega))]; exact h0)) ?_
  refine a_iconst (pc := 32) (v := nI 1) dL_put_32 (by decide) ?_
  refine n_iadd (pc := 33) dL_put_33 ?_
  refine g_iast (pc := 34) (j := 0) dL_put_34 k66 p66 rfl (by omega) ?_
  obtain ⟨H, hH⟩ : ∃ Hx, Hx = sI (sI h 66 (1 + ((T.length % 20) / 4)) ((hI h 66 (1 + ((T.length % 20) / 4))) ||| ((nI c) <<< ((nI (24 - (8 * (T.length % 4)))) &&& 31)))) 66 0 (nI (T.length + 1)) := ⟨_, rfl⟩
  refine a_heap (h' := H) hH.symm ?_
  have e0 : hI H 66 0 = nI (T.length + 1) := by rw [hH, hI_sI, if_pos ⟨rfl, rfl⟩]
  have hw2 : ∀ w, w < 5 → WB (hI H 66 (1 + w)) (T ++ [c]) (20 * (T.length / 20) + 4 * w) := fun w h5 => by
    rw [hH, hI_sI, if_neg (fun z => absurd z.2 (by omega)), hI_sI]
    by_cases e : w = T.length % 20 / 4
    · rw [if_pos ⟨rfl, by rw [e]⟩, sh24 (by omega), ← e]; exact WB_put (hw w h5) hc (by omega) (by omega)
    · rw [if_neg (fun z => e (by omega))]; exact WB_far (hw w h5) (by omega)
  have dq : Dq (fun a => a = 66) 0 h H := by rw [hH]; exact ((Dq.refl hn : Dq (fun a => a = 66) 0 h h).sI (Or.inl rfl)).sI (Or.inl rfl)
  have im : IM H t := m.dq dq (fun a z => by have : a = 66 := z; omega)
  have ta2 : TA t0 t (T ++ [c]) (20 * (T.length / 20)) := ⟨ta.1, ta.2.1, ta.2.2.1, fun j hj => by rw [getD_app (by omega)]; exact ta.2.2.2 j hj⟩
  have dq2 : Dq S67 0 h H := dq.mono (fun a z => by show a < 67; have : a = 66 := z; omega)
  have eN : hN H = hN h := by rw [hH]; rfl
  have hlen : (T ++ [c]).length = T.length + 1 := by rw [List.length_append]; rfl
  have p66 : prN (hN H) 66 := by rw [eN]; exact p66
  refine a_aload_n (pc := 35) (i := 1) dL_put_35 rfl rfl ?_
  refine a_iconst (pc := 36) (v := nI 0) dL_put_36 (by decide) ?_
  refine g_iald (pc := 37) (j := 0) dL_put_37 k66 p66 rfl (by omega) ?_
  refine a_top (show (.int (hI H 66 0) : Value) = .int (nI (T.length + 1)) from congrArg Value.int e0) ?_
  refine a_bipush (pc := 38) (v := nI 20) dL_put_38 (by decide) ?_
  refine n_irem (pc := 40) dL_put_40 (by omega) (by omega) (by omega) ?_
  refine n_if_ne (pc := 41) (tgt := 49) dL_put_41 (by decide) (by omega) (fun c41 => ?_) (fun c41 => ?_)
  · skip
    have ed : (T.length + 1) / 20 = T.length / 20 := by omega
    have x2 : TXb H t0 (T ++ [c]) := by unfold TXb; rw [hlen, ed]; exact ⟨⟨t, im, ta2⟩, e0, hw2⟩
    exact a_return (pc := 49) dL_put_49 rfl (⟨rfl, x2, dq2, eN⟩)
  · skip
    have ed : 20 * ((T.length + 1) / 20) = 20 * (T.length / 20) + 20 := by omega
    refine a_aload_n (pc := 44) (i := 0) dL_put_44 rfl rfl ?_
    refine a_aload_n (pc := 45) (i := 1) dL_put_45 rfl rfl ?_
    refine g_uS (pc := 46) (as := [.ref 0, .ref 66]) dL_put_46 (lc_RL_7 rfl) ceL_flush (w_flush (d := d) im ta2 (by omega) hw2) rfl rfl (Nat.le_of_ble_eq_true rfl) (fun h2 y => y.2.2.2.2) (fun H2 y => ?_)
    obtain ⟨y1, y2, y3, y4, y5⟩ := y
    have x2 : TXb H2 t0 (T ++ [c]) := by unfold TXb; rw [hlen, ed]; exact ⟨y1, y3.trans e0, fun w h5 => by rw [y2 w h5]; exact WB_0 (by rw [hlen]; omega)⟩
    exact a_return (pc := 49) dL_put_49 rfl (⟨rfl, x2, dq2.trans y4, y5.trans eN⟩)
theorem okS_67 : okS S67 := by
  intro x hx
  have hx : x < 67 := hx
  rcases (by omega : x < 66 ∨ x = 66) with z | z
  · exact okS_66 x z
  · rw [z, k66]
    refine ⟨fun n e => (by cases e), fun n hn e => ?_, fun e => (by cases e), fun n hn e => (by cases e)⟩
    cases e
    omega
set_option maxHeartbeats 1500000 in
set_option maxRecDepth 100000 in
theorem w_write {d r : Nat} {h : AH} {t0 : ST} {T U : List Nat} (x : TXb h t0 T) (sr : STR h r U) (hn : 68 ≤ hN h) (hl : T.length + U.length < 370) : AC mL_write (d + 103) 0 0 [.ref 0, .ref 66, .ref r] h (Qu (QTx t0 (T ++ U) h)) := by
  refine AC.of (by decide) rfl (Nat.le_of_ble_eq_true rfl) (fun X => ?_)
  show AW X mL_write (d + 103) 0 0 0 [(0, .ref 0), (1, .ref 66), (2, .ref r)] [] h (Qu (QTx t0 (T ++ U) h))
  refine a_iconst (pc := 0) (v := nI 0) dL_write_0 (by decide) ?_
  refine a_istore_n (pc := 1) (i := 3) (ls' := [(0, .ref 0), (1, .ref 66), (2, .ref r), (3, .int (nI 0))]) dL_write_1 rfl (by decide) rfl ?_
  have LP : ∀ (fu : Nat) (i : Nat) (H : AH), i ≤ U.length → TXb H t0 (T ++ U.take i) → Dq S67 0 h H → hN H = hN h → U.length - i < fu → AW X mL_write (d + 103) 0 0 2 [(0, .ref 0), (1, .ref 66), (2, .ref r), (3, .int (nI i))] [] H (Qu (QTx t0 (T ++ U) h)) := by
    intro fu
    induction fu with
    | zero => intro i H hi hx hd hNe hz; exact absurd hz (Nat.not_lt_zero _)
    | succ fu ih =>
      intro i H hi hx hd hNe hz
      have sr2 : STR H r U := sr.dq hd okS_67.str
      refine a_iload_n (pc := 2) (i := 3) dL_write_2 rfl rfl ?_
      refine a_aload_n (pc := 3) (i := 2) dL_write_3 rfl rfl ?_
      refine g_vStr1 (pc := 4) (as := []) (b := r) (v := .int (nI U.length)) (h' := H) dL_write_4 (lc_RL_23 rfl) ceJ0_length_8abf5 sr2.ok (s_len (d := d + 101) sr2) rfl rfl (Nat.le_of_ble_eq_true rfl) rfl ?_
      refine n_icmp_ge (pc := 7) (tgt := 26) dL_write_7 (by decide) (by omega) (by omega) (fun c7 => ?_) (fun c7 => ?_)
      · skip
        have ei : i = U.length := by omega
        rw [ei, List.take_length] at hx
        exact a_return (pc := 26) dL_write_26 rfl (⟨rfl, hx, hd, hNe⟩)
      · skip
        refine a_aload_n (pc := 10) (i := 0) dL_write_10 rfl rfl ?_
        refine a_aload_n (pc := 11) (i := 1) dL_write_11 rfl rfl ?_
        refine a_aload_n (pc := 12) (i := 2) dL_write_12 rfl rfl ?_
        refine a_iload_n (pc := 13) (i := 3) dL_write_13 rfl rfl ?_
        refine g_vStr1 (pc := 14) (as := [.int (nI i)]) (b := r) (v := .int (nI (U.getD i 0))) (h' := H) dL_write_14 (lc_RL_29 rfl) ceJ0_charAt_5068e sr2.ok (s_charAt (d := d + 99) sr2 c7) rfl rfl (Nat.le_of_ble_eq_true rfl) rfl ?_
        refine g_uS (pc := 17) (as := [.ref 0, .ref 66, .int (nI (U.getD i 0))]) dL_write_17 (lc_RL_33 rfl) ceL_put (w_put (d := d) hx (sr.1 i) (by rw [List.length_append, List.length_take]; omega)) rfl rfl (Nat.le_of_ble_eq_true rfl) (fun h2 y => y.2.2) (fun H2 y => ?_)
        obtain ⟨y1, y2, y3⟩ := y
        have e1 : T ++ U.take i ++ [U.getD i 0] = T ++ U.take (i + 1) := by rw [List.append_assoc, List.take_succ_eq_append_getElem c7]; simp only [List.getD_eq_getElem?_getD, List.getElem?_eq_getElem c7, Option.getD_some]
        rw [e1] at y1
        refine n_iinc (pc := 20) (k := 1) (ls' := [(0, .ref 0), (1, .ref 66), (2, .ref r), (3, .int (nI (i + 1)))]) dL_write_20 rfl (by decide) (by decide) rfl ?_
        refine a_goto (pc := 23) (tgt := 2) dL_write_23 (by decide) ?_
        exact ih (i + 1) H2 (by omega) y1 (hd.trans y2) (y3.trans hNe) (by omega)
  exact LP (U.length + 1) 0 h (by omega) (by rw [List.take_zero, List.append_nil]; exact x) (Dq.refl hn) rfl (by omega)
set_option maxHeartbeats 1500000 in
set_option maxRecDepth 100000 in
theorem w_writeNumber {d n : Nat} {h : AH} {t0 : ST} {T : List Nat} (x : TXb h t0 T) (h10 : n < 10) (hl : T.length < 370) : AC mL_writeNumber (d + 103) 0 0 [.ref 0, .ref 66, .int (nI n)] h (Qu (QTx t0 (T ++ [48 + n]) h)) := by
  refine AC.of (by decide) rfl (Nat.le_of_ble_eq_true rfl) (fun X => ?_)
  show AW X mL_writeNumber (d + 103) 0 0 0 [(0, .ref 0), (1, .ref 66), (2, .int (nI n))] [] h (Qu (QTx t0 (T ++ [48 + n]) h))
  refine a_iconst (pc := 0) (v := nI 1) dL_writeNumber_0 (by decide) ?_
  refine a_istore_n (pc := 1) (i := 3) (ls' := [(0, .ref 0), (1, .ref 66), (2, .int (nI n)), (3, .int (nI 1))]) dL_writeNumber_1 rfl (by decide) rfl ?_
  refine a_iload_n (pc := 2) (i := 3) dL_writeNumber_2 rfl rfl ?_
  refine a_iload_n (pc := 3) (i := 2) dL_writeNumber_3 rfl rfl ?_
  refine a_bipush (pc := 4) (v := nI 10) dL_writeNumber_4 (by decide) ?_
  refine n_idiv (pc := 6) dL_writeNumber_6 (by omega) (by omega) (by omega) ?_
  refine n_icmp_gt (pc := 7) (tgt := 18) dL_writeNumber_7 (by decide) (by omega) (by omega) (fun c7 => ?_) (fun c7 => ?_)
  · skip
    refine a_iload_n (pc := 18) (i := 3) dL_writeNumber_18 rfl rfl ?_
    refine n_if_le (pc := 19) (tgt := 44) dL_writeNumber_19 (by decide) (by omega) (fun c19 => ?_) (fun c19 => ?_)
    · skip
      exact absurd c19 (by omega)
    · skip
      refine a_aload_n (pc := 22) (i := 0) dL_writeNumber_22 rfl rfl ?_
      refine a_aload_n (pc := 23) (i := 1) dL_writeNumber_23 rfl rfl ?_
      refine a_bipush (pc := 24) (v := nI 48) dL_writeNumber_24 (by decide) ?_
      refine a_iload_n (pc := 26) (i := 2) dL_writeNumber_26 rfl rfl ?_
      refine a_iload_n (pc := 27) (i := 3) dL_writeNumber_27 rfl rfl ?_
      refine n_idiv (pc := 28) dL_writeNumber_28 (by omega) (by omega) (by omega) ?_
      refine a_bipush (pc := 29) (v := nI 10) dL_writeNumber_29 (by decide) ?_
      refine n_irem (pc := 31) dL_writeNumber_31 (by omega) (by omega) (by omega) ?_
      refine n_iadd (pc := 32) dL_writeNumber_32 ?_
      refine a_top (show (.int (nI (48 + ((n / 1) % 10))) : Value) = .int (nI (48 + n)) from congrArg (fun z : Nat => (.int (nI z) : Value)) (by omega)) ?_
      refine g_uS (pc := 33) (as := [.ref 0, .ref 66, .int (nI (48 + n))]) dL_writeNumber_33 (lc_RL_33 rfl) ceL_put (w_put (d := d) x (by omega) hl) rfl rfl (Nat.le_of_ble_eq_true rfl) (fun h2 y => y.2.2) (fun H2 y => ?_)
      refine a_iload_n (pc := 36) (i := 3) dL_writeNumber_36 rfl rfl ?_
      refine a_bipush (pc := 37) (v := nI 10) dL_writeNumber_37 (by decide) ?_
      refine n_idiv (pc := 39) dL_writeNumber_39 (by omega) (by omega) (by omega) ?_
      refine a_istore_n (pc := 40) (i := 3) (ls' := [(0, .ref 0), (1, .ref 66), (2, .int (nI n)), (3, .int (nI (1 / 10)))]) dL_writeNumber_40 rfl (by decide) rfl ?_
      refine a_goto (pc := 41) (tgt := 18) dL_writeNumber_41 (by decide) ?_
      refine a_iload_n (pc := 18) (i := 3) dL_writeNumber_18 rfl rfl ?_
      refine n_if_le (pc := 19) (tgt := 44) dL_writeNumber_19 (by decide) (by omega) (fun c19b => ?_) (fun c19b => ?_)
      · skip
        exact a_return (pc := 44) dL_writeNumber_44 rfl (⟨rfl, y⟩)
      · skip
        exact absurd c19b (by decide)
  · skip
    exact absurd c7 (by omega)
