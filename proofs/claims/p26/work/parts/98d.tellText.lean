/-! tellText -/
section RW98d
variable {X : XT} {mt : MT} {d kc ks kc' ks' pc : Nat} {ls ls' : List (Nat × Value)} {st : List Value} {h : AH} {Q : Res → AH → Prop}
theorem g_pX {mt' : MT} {idx n : Nat} {as stk : List Value} {v : Res} {t : ST} (hd : decode (mB mt) pc = .ok (.invokestatic idx, 3)) (hl : Cond.methodLink (mN mt).cls idx (mN mt') ∈ lw_tb2 ∧ Cond.static (mN mt') ∈ lw_tb2) (hce : CEH mt' n) (hc' : AH' mt' d 1 6 as h (Qp v t h)) (hn : as.length = n) (hstk : stk = as.reverse ++ st) (hst : (st.map fun v => v.category).sum ≤ 8) (e1 : kc' = kc + 1) (e2 : ks' = ks + 6) (kk : ∀ h2, IM h2 t → Fw h h2 → AW X mt (d + 1) kc ks (pc + 3) ls (.int (wn v) :: st) h2 Q) : AW X mt (d + 1) kc' ks' pc ls stk h Q := by
  subst e1 e2
  refine a_callSX hd hl hce hc' hn hstk hst (fun E h' q => by cases q.1) (fun v h' q => q.2.2.1) (fun v2 h2 q => ?_)
  obtain ⟨q1, q2, q3⟩ := q
  cases q1
  exact kk h2 q2 q3
end RW98d
def BZ (h : AH) : Prop := hI h 66 0 = 0 ∧ ∀ w, w < 5 → WB (hI h 66 (1 + w)) [] 0
theorem TXb_0 {h : AH} {t : ST} (m : IM h t) (hb : tB t = 0) (z : BZ h) : TXb h t [] := ⟨⟨t, m, rfl, rfl, hb, fun j hj => absurd hj (by show ¬ j < 20 * (0 / 20); omega)⟩, z.1, fun w hw i hi => by rw [z.2 w hw i hi]; rfl⟩
theorem tRem_c2 {t u : ST} (h1 : tC t = tC u) (h2 : t.2.2 = u.2.2) : (tRem t).2.2 = (tRem u).2.2 := by
  obtain ⟨a, b, c⟩ := t
  obtain ⟨a2, b2, c2⟩ := u
  have h1 : a = a2 := h1
  have h2 : c = c2 := h2
  subst h1 h2
  unfold tRem
  show (if tN (a, b, c) = 8 then _ else _ : ST).2.2 = (if tN (a, b, c) = 8 then _ else _ : ST).2.2
  split <;> rfl
theorem isLt_nc {c : Nat} (h : 97 ≤ c ∧ c ≤ 122) : isLt (nI c) := ⟨fun z => by have := (nI_ltI (by omega) (by omega)).mp z; omega, fun z => by have := (nI_ltI (by omega) (by omega)).mp z; omega⟩
def QTt (t0 : ST) (U : List Nat) (h : AH) : Res → AH → Prop := fun r h2 => ∃ t2, r = .inl (some (.int (nI (nMiss (tC t2))))) ∧ IM h2 t2 ∧ tB t2 = 0 ∧ BZ h2 ∧ (∃ Y, tC t2 = msOf (tC t0) U.length Y ∧ ∀ j, j < U.length → Y j = nI (U.getD j 0)) ∧ t2.2.2 = (tRem t0).2.2 ∧ Dq S67 0 h h2 ∧ hN h2 = hN h
set_option maxHeartbeats 1500000 in
set_option maxRecDepth 100000 in
theorem w_tellText {d r : Nat} {h : AH} {t0 : ST} {U : List Nat} (m : IM h t0) (hb : tB t0 = 0) (bz : BZ h) (sr : STR h r U) (hl : 1 ≤ U.length ∧ U.length ≤ 9) (hU : ∀ j, j < U.length → 97 ≤ U.getD j 0 ∧ U.getD j 0 ≤ 122) : AC mL_tellText (d + 104) 1 6 [.ref 0, .ref 66, .ref r] h (QTt t0 U h) := by
  refine AC.of (by decide) rfl (Nat.le_of_ble_eq_true rfl) (fun X => ?_)
  show AW X mL_tellText (d + 104) 1 6 0 [(0, .ref 0), (1, .ref 66), (2, .ref r)] [] h (QTt t0 U h)
  have hn := m.1.1.1
  refine a_aload_n (pc := 0) (i := 0) dL_tellText_0 rfl rfl ?_
  refine a_aload_n (pc := 1) (i := 1) dL_tellText_1 rfl rfl ?_
  refine a_aload_n (pc := 2) (i := 2) dL_tellText_2 rfl rfl ?_
  refine g_uS (pc := 3) (as := [.ref 0, .ref 66, .ref r]) dL_tellText_3 (lc_RL_90 rfl) ceL_write (w_write (d := d) (TXb_0 m hb bz) sr hn (by show 0 + U.length < 370; omega)) rfl rfl (Nat.le_of_ble_eq_true rfl) (fun h2 y => y.2.2) (fun H1 y => ?_)
  obtain ⟨y1, y2, y3⟩ := y
  rw [List.nil_append] at y1
  obtain ⟨⟨t1, m1, ta1⟩, -, hw1⟩ := y1
  have e20 : 20 * (U.length / 20) = 0 := by omega
  rw [e20] at ta1 hw1
  have sr1 : STR H1 r U := sr.dq y2 okS_67.str
  refine a_aload_n (pc := 6) (i := 2) dL_tellText_6 rfl rfl ?_
  refine g_vStr1 (pc := 7) (as := []) (b := r) (v := .int (nI U.length)) (h' := H1) dL_tellText_7 (lc_RL_23 rfl) ceJ0_length_8abf5 sr1.ok (s_len (d := d + 102) sr1) rfl rfl (Nat.le_of_ble_eq_true rfl) rfl ?_
  refine a_bipush (pc := 10) (v := nI 20) dL_tellText_10 (by decide) ?_
  refine n_irem (pc := 12) dL_tellText_12 (by omega) (by omega) (by omega) ?_
  refine n_if_le (pc := 13) (tgt := 21) dL_tellText_13 (by decide) (by omega) (fun c13 => ?_) (fun c13 => ?_)
  · skip
    exact absurd c13 (by omega)
  · skip
    refine a_aload_n (pc := 16) (i := 0) dL_tellText_16 rfl rfl ?_
    refine a_aload_n (pc := 17) (i := 1) dL_tellText_17 rfl rfl ?_
    refine g_uS (pc := 18) (as := [.ref 0, .ref 66]) dL_tellText_18 (lc_RL_7 rfl) ceL_flush (w_flush (d := d + 2) m1 ta1 (by omega) hw1) rfl rfl (Nat.le_of_ble_eq_true rfl) (fun h2 y => y.2.2.2.2) (fun H2 y => ?_)
    obtain ⟨⟨t2, m2, ta2⟩, z2, z3, z4, z5⟩ := y
    have hn2 := m2.1.1.1
    have p66 : prN (hN H2) 66 := prN_st (by omega) (by omega)
    refine a_aload_n (pc := 21) (i := 1) dL_tellText_21 rfl rfl ?_
    refine a_iconst (pc := 22) (v := nI 0) dL_tellText_22 (by decide) ?_
    refine a_iconst (pc := 23) (v := nI 0) dL_tellText_23 (by decide) ?_
    refine g_iast (pc := 24) (j := 0) dL_tellText_24 k66 p66 rfl (by omega) ?_
    obtain ⟨H3, hH3⟩ : ∃ Hx, Hx = sI H2 66 0 (nI 0) := ⟨_, rfl⟩
    refine a_heap (h' := H3) hH3.symm ?_
    have d3 : Dq (fun a => a = 66) 0 H2 H3 := by rw [hH3]; exact (Dq.refl hn2 : Dq (fun a => a = 66) 0 H2 H2).sI (Or.inl rfl)
    have m3 : IM H3 t2 := m2.dq d3 (fun a z => by have : a = 66 := z; omega)
    have d4 : Dq S67 0 h H3 := (y2.trans z4).trans (d3.mono (fun a z => by show a < 67; have : a = 66 := z; omega))
    have eN3 : hN H3 = hN h := by rw [hH3]; exact z5.trans y3
    have bz3 : BZ H3 := ⟨by rw [hH3, hI_sI, if_pos ⟨rfl, rfl⟩]; rfl, fun w hw => by rw [hH3, hI_sI, if_neg (fun z => absurd z.2 (by omega)), z2 w hw]; exact WB_0 (Nat.le_refl _)⟩
    have sr3 : STR H3 r U := sr.dq d4 okS_67.str
    refine a_aload_n (pc := 25) (i := 0) dL_tellText_25 rfl rfl ?_
    refine a_aload_n (pc := 26) (i := 2) dL_tellText_26 rfl rfl ?_
    refine g_vStr1 (pc := 27) (as := []) (b := r) (v := .int (nI U.length)) (h' := H3) dL_tellText_27 (lc_RL_23 rfl) ceJ0_length_8abf5 sr3.ok (s_len (d := d + 102) sr3) rfl rfl (Nat.le_of_ble_eq_true rfl) rfl ?_
    have eo : oTell t2 (nI U.length) = _ := cif_t ⟨U.length, ⟨by omega, by omega, by rw [ta2.2.2.1]; omega⟩, rfl, fun i hi => by rw [ta2.2.2.2 i (by omega)]; exact isLt_nc (hU i hi)⟩
    rw [i2n_nI (by omega)] at eo
    refine g_pX (pc := 30) (kc := 0) (ks := 0) (as := [.ref 0, .int (nI U.length)]) dL_tellText_30 (lc_RL_94 rfl) ceL_tell (sL_tell (d := d + 2) m3) rfl rfl (Nat.le_of_ble_eq_true rfl) rfl rfl (fun H4 m4 f4 => ?_)
    rw [eo] at m4 ⊢
    have hu := f4.2 66 (Nat.le_refl _)
    have bz4 : BZ H4 := ⟨by rw [hu.1]; exact bz3.1, fun w hw => by rw [hu.1]; exact bz3.2 w hw⟩
    exact a_ireturn (pc := 33) dL_tellText_33 rfl rfl (⟨_, rfl, m4, rfl, bz4, ⟨tY t2, by rw [← ta2.1]; rfl, fun j hj => ta2.2.2.2 j (by omega)⟩, tRem_c2 ta2.1 ta2.2.1, d4.trans ((f4.dq (by rw [eN3]; exact hn)).mono (fun a z => by show a < 67; omega)), f4.1.trans eN3⟩)
