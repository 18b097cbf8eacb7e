/-! loadText -/
theorem WB_end {w : Int32} {T : List Nat} {a : Nat} (h : WB w T a) (hl : T.length ≤ a) : WB w [] 0 := fun i hi => by
  rw [h i hi, List.getD_eq_getElem?_getD, List.getElem?_eq_none (by omega)]
  rfl
/-- loadText of the text T: the object had got b characters of it -/
def QLd (t0 : ST) (T : List Nat) (h : AH) : Res → AH → Prop := fun r h2 => ∃ t2 b, (TA t0 t2 T b ∧ T.length ≤ b ∧ b ≤ 400) ∧ r = .inl (some (.int (wn (oLoad t2 (nI T.length)).1))) ∧ IM h2 (oLoad t2 (nI T.length)).2 ∧ BZ h2 ∧ Dq S67 0 h h2 ∧ hN h2 = hN h
set_option maxHeartbeats 1500000 in
set_option maxRecDepth 100000 in
theorem w_loadText {d : Nat} {h : AH} {t0 : ST} {T : List Nat} (x : TXb h t0 T) (hl : T.length < 370) : AC mL_loadText (d + 102) 1 6 [.ref 0, .ref 66] h (QLd t0 T h) := by
  refine AC.of (by decide) rfl (Nat.le_of_ble_eq_true rfl) (fun X => ?_)
  show AW X mL_loadText (d + 102) 1 6 0 [(0, .ref 0), (1, .ref 66)] [] h (QLd t0 T h)
  obtain ⟨⟨t, m, ta⟩, h0, hw⟩ := x
  have hn := m.1.1.1
  have p66 : prN (hN h) 66 := prN_st (by omega) (by omega)
  refine a_aload_n (pc := 0) (i := 1) dL_loadText_0 rfl rfl ?_
  refine a_iconst (pc := 1) (v := nI 0) dL_loadText_1 (by decide) ?_
  refine g_iald (pc := 2) (j := 0) dL_loadText_2 k66 p66 rfl (by omega) ?_
  refine a_top (show (.int (hI h 66 0) : Value) = .int (nI T.length) from congrArg Value.int h0) ?_
  refine a_istore_n (pc := 3) (i := 2) (ls' := [(0, .ref 0), (1, .ref 66), (2, .int (nI T.length))]) dL_loadText_3 rfl (by decide) rfl ?_
  refine a_iload_n (pc := 4) (i := 2) dL_loadText_4 rfl rfl ?_
  refine a_bipush (pc := 5) (v := nI 20) dL_loadText_5 (by decide) ?_
  refine n_irem (pc := 7) dL_loadText_7 (by omega) (by omega) (by omega) ?_
  refine n_if_le (pc := 8) (tgt := 16) dL_loadText_8 (by decide) (by omega) (fun c8 => ?_) (fun c8 => ?_)
  · skip
    have wz : ∀ w, w < 5 → WB (hI h 66 (1 + w)) [] 0 := fun w h5 => WB_end (hw w h5) (by omega)
    refine a_aload_n (pc := 16) (i := 1) dL_loadText_16 rfl rfl ?_
    refine a_iconst (pc := 17) (v := nI 0) dL_loadText_17 (by decide) ?_
    refine a_iconst (pc := 18) (v := nI 0) dL_loadText_18 (by decide) ?_
    refine g_iast (pc := 19) (j := 0) dL_loadText_19 k66 p66 rfl (by omega) ?_
    obtain ⟨H3, hH3⟩ : ∃ Hx, Hx = sI h 66 0 (nI 0) := ⟨_, rfl⟩
    refine a_heap (h' := H3) hH3.symm ?_
    have hn2 := m.1.1.1
    have d3 : Dq (fun a => a = 66) 0 h H3 := by rw [hH3]; exact (Dq.refl hn2 : Dq (fun a => a = 66) 0 h h).sI (Or.inl rfl)
    have m3 := m.dq d3 (fun a z => by have : a = 66 := z; omega)
    have d4 : Dq S67 0 h H3 := (Dq.refl hn : Dq S67 0 h h).trans (d3.mono (fun a z => by show a < 67; have : a = 66 := z; omega))
    have eN3 : hN H3 = hN h := by rw [hH3]; exact rfl
    have bz3 : BZ H3 := ⟨by rw [hH3, hI_sI, if_pos ⟨rfl, rfl⟩]; rfl, fun w hw => by rw [hH3, hI_sI, if_neg (fun z => absurd z.2 (by omega))]; exact wz w hw⟩
    refine a_aload_n (pc := 20) (i := 0) dL_loadText_20 rfl rfl ?_
    refine a_iload_n (pc := 21) (i := 2) dL_loadText_21 rfl rfl ?_
    refine g_pX (pc := 22) (kc := 0) (ks := 0) (as := [.ref 0, .int (nI T.length)]) dL_loadText_22 (lc_RL_19 rfl) ceL_load (sL_load (d := d) m3) rfl rfl (Nat.le_of_ble_eq_true rfl) rfl rfl (fun H4 m4 f4 => ?_)
    have hu := f4.2 66 (Nat.le_refl _)
    have bz4 : BZ H4 := ⟨by rw [hu.1]; exact bz3.1, fun w hw => by rw [hu.1]; exact bz3.2 w hw⟩
    exact a_ireturn (pc := 25) dL_loadText_25 rfl rfl (⟨t, (20 * (T.length / 20)), ⟨ta, by omega, by omega⟩, rfl, m4, bz4, d4.trans ((f4.dq (by rw [eN3]; exact hn)).mono (fun a z => by show a < 67; omega)), f4.1.trans eN3⟩)
  · skip
    refine a_aload_n (pc := 11) (i := 0) dL_loadText_11 rfl rfl ?_
    refine a_aload_n (pc := 12) (i := 1) dL_loadText_12 rfl rfl ?_
    refine g_uS (pc := 13) (as := [.ref 0, .ref 66]) dL_loadText_13 (lc_RL_7 rfl) ceL_flush (w_flush (d := d) m ta (by omega) hw) rfl rfl (Nat.le_of_ble_eq_true rfl) (fun h2 y => y.2.2.2.2) (fun H2 y => ?_)
    obtain ⟨⟨t2, m2, ta2⟩, z2, z3, z4, z5⟩ := y
    have p66 : prN (hN H2) 66 := prN_st (by have := m2.1.1.1; omega) (by omega)
    have wz : ∀ w, w < 5 → WB (hI H2 66 (1 + w)) [] 0 := fun w h5 => by rw [z2 w h5]; exact WB_0 (Nat.le_refl _)
    refine a_aload_n (pc := 16) (i := 1) dL_loadText_16 rfl rfl ?_
    refine a_iconst (pc := 17) (v := nI 0) dL_loadText_17 (by decide) ?_
    refine a_iconst (pc := 18) (v := nI 0) dL_loadText_18 (by decide) ?_
    refine g_iast (pc := 19) (j := 0) dL_loadText_19 k66 p66 rfl (by omega) ?_
    obtain ⟨H3, hH3⟩ : ∃ Hx, Hx = sI H2 66 0 (nI 0) := ⟨_, rfl⟩
    refine a_heap (h' := H3) hH3.symm ?_
    have hn2 := m2.1.1.1
    have d3 : Dq (fun a => a = 66) 0 H2 H3 := by rw [hH3]; exact (Dq.refl hn2 : Dq (fun a => a = 66) 0 H2 H2).sI (Or.inl rfl)
    have m3 := m2.dq d3 (fun a z => by have : a = 66 := z; omega)
    have d4 : Dq S67 0 h H3 := z4.trans (d3.mono (fun a z => by show a < 67; have : a = 66 := z; omega))
    have eN3 : hN H3 = hN h := by rw [hH3]; exact z5
    have bz3 : BZ H3 := ⟨by rw [hH3, hI_sI, if_pos ⟨rfl, rfl⟩]; rfl, fun w hw => by rw [hH3, hI_sI, if_neg (fun z => absurd z.2 (by omega))]; exact wz w hw⟩
    refine a_aload_n (pc := 20) (i := 0) dL_loadText_20 rfl rfl ?_
    refine a_iload_n (pc := 21) (i := 2) dL_loadText_21 rfl rfl ?_
    refine g_pX (pc := 22) (kc := 0) (ks := 0) (as := [.ref 0, .int (nI T.length)]) dL_loadText_22 (lc_RL_19 rfl) ceL_load (sL_load (d := d) m3) rfl rfl (Nat.le_of_ble_eq_true rfl) rfl rfl (fun H4 m4 f4 => ?_)
    have hu := f4.2 66 (Nat.le_refl _)
    have bz4 : BZ H4 := ⟨by rw [hu.1]; exact bz3.1, fun w hw => by rw [hu.1]; exact bz3.2 w hw⟩
    exact a_ireturn (pc := 25) dL_loadText_25 rfl rfl (⟨t2, (20 * (T.length / 20) + 20), ⟨ta2, by omega, by omega⟩, rfl, m4, bz4, d4.trans ((f4.dq (by rw [eN3]; exact hn)).mono (fun a z => by show a < 67; omega)), f4.1.trans eN3⟩)
