/-! the collected text: flush, put -/
theorem k66 : kdA 66 = some (.inr (0, 8)) := kdA_sh rfl
theorem k0 : kdA 0 = some (.inl 4) := kdA_sh rfl
theorem tApp_5 {t : ST} {T : List Nat} {b : Nat} {w : Nat → Int32} (hb : tB t = b) (hy : ∀ j, j < b → tY t j = nI (T.getD j 0)) (hw : ∀ i, i < 5 → WB (w i) T (b + 4 * i)) : tC (tApp1 (tApp1 (tApp1 (tApp1 (tApp1 t (w 0)) (w 1)) (w 2)) (w 3)) (w 4)) = tC t ∧ (tApp1 (tApp1 (tApp1 (tApp1 (tApp1 t (w 0)) (w 1)) (w 2)) (w 3)) (w 4)).2.2 = t.2.2 ∧ tB (tApp1 (tApp1 (tApp1 (tApp1 (tApp1 t (w 0)) (w 1)) (w 2)) (w 3)) (w 4)) = b + 20 ∧ ∀ j, j < b + 20 → tY (tApp1 (tApp1 (tApp1 (tApp1 (tApp1 t (w 0)) (w 1)) (w 2)) (w 3)) (w 4)) j = nI (T.getD j 0) := by
  have one : ∀ (t : ST) (b : Nat) (x : Int32), tB t = b → (∀ j, j < b → tY t j = nI (T.getD j 0)) → WB x T b → tB (tApp1 t x) = b + 4 ∧ ∀ j, j < b + 4 → tY (tApp1 t x) j = nI (T.getD j 0) := by
    intro t b x h1 h2 h3
    refine ⟨by show tB t + 4 = _; rw [h1], fun j hj => ?_⟩
    show (if j < tB t then tY t j else byt x (j - tB t)) = _
    rw [h1]
    by_cases q : j < b
    · rw [if_pos q]; exact h2 j q
    · rw [if_neg q, h3 (j - b) (by omega), show b + (j - b) = j by omega]
  obtain ⟨a1, a2⟩ := one t b (w 0) hb hy (hw 0 (by omega))
  obtain ⟨b1, b2⟩ := one _ _ (w 1) a1 a2 (hw 1 (by omega))
  obtain ⟨c1, c2⟩ := one _ _ (w 2) b1 b2 (hw 2 (by omega))
  obtain ⟨d1, d2⟩ := one _ _ (w 3) c1 c2 (hw 3 (by omega))
  obtain ⟨e1, e2⟩ := one _ _ (w 4) d1 d2 (hw 4 (by omega))
  exact ⟨rfl, rfl, e1, e2⟩
/-- the object's text so far: b characters, those of T -/
def TA (t0 t : ST) (T : List Nat) (b : Nat) : Prop := tC t = tC t0 ∧ t.2.2 = t0.2.2 ∧ tB t = b ∧ ∀ j, j < b → tY t j = nI (T.getD j 0)
abbrev S67 : Nat → Prop := fun a => a < 67
def QFl (t0 : ST) (T : List Nat) (b : Nat) (h h2 : AH) : Prop := (∃ t2, IM h2 t2 ∧ TA t0 t2 T (b + 20)) ∧ (∀ w, w < 5 → hI h2 66 (1 + w) = 0) ∧ hI h2 66 0 = hI h 66 0 ∧ Dq S67 0 h h2 ∧ hN h2 = hN h
set_option maxHeartbeats 1500000 in
set_option maxRecDepth 100000 in
theorem w_flush {d b : Nat} {h : AH} {t0 t : ST} {T : List Nat} (m : IM h t) (ta : TA t0 t T b) (hb : b + 20 ≤ 400) (hw : ∀ i, i < 5 → WB (hI h 66 (1 + i)) T (b + 4 * i)) : AC mL_flush (d + 101) 0 0 [.ref 0, .ref 66] h (Qu (QFl t0 T b h)) := by
  refine AC.of (by decide) rfl (Nat.le_of_ble_eq_true rfl) (fun X => ?_)
  show AW X mL_flush (d + 101) 0 0 0 [(0, .ref 0), (1, .ref 66)] [] h (Qu (QFl t0 T b h))
  have hn := m.1.1.1
  have p66 : prN (hN h) 66 := prN_st (by omega) (by omega)
  refine a_aload_n (pc := 0) (i := 0) dL_flush_0 rfl rfl ?_
  refine a_aload_n (pc := 1) (i := 1) dL_flush_1 rfl rfl ?_
  refine a_iconst (pc := 2) (v := nI 1) dL_flush_2 (by decide) ?_
  refine g_iald (pc := 3) (j := 1) dL_flush_3 k66 p66 rfl (by omega) ?_
  refine a_aload_n (pc := 4) (i := 1) dL_flush_4 rfl rfl ?_
  refine a_iconst (pc := 5) (v := nI 2) dL_flush_5 (by decide) ?_
  refine g_iald (pc := 6) (j := 2) dL_flush_6 k66 p66 rfl (by omega) ?_
  refine a_aload_n (pc := 7) (i := 1) dL_flush_7 rfl rfl ?_
  refine a_iconst (pc := 8) (v := nI 3) dL_flush_8 (by decide) ?_
  refine g_iald (pc := 9) (j := 3) dL_flush_9 k66 p66 rfl (by omega) ?_
  refine a_aload_n (pc := 10) (i := 1) dL_flush_10 rfl rfl ?_
  refine a_iconst (pc := 11) (v := nI 4) dL_flush_11 (by decide) ?_
  refine g_iald (pc := 12) (j := 4) dL_flush_12 k66 p66 rfl (by omega) ?_
  refine a_aload_n (pc := 13) (i := 1) dL_flush_13 rfl rfl ?_
  refine a_iconst (pc := 14) (v := nI 5) dL_flush_14 (by decide) ?_
  refine g_iald (pc := 15) (j := 5) dL_flush_15 k66 p66 rfl (by omega) ?_
  have e5 := tApp_5 (t := t) (w := fun i => hI h 66 (1 + i)) ta.2.2.1 ta.2.2.2 hw
  have eo : oApp t (hI h 66 1) (hI h 66 2) (hI h 66 3) (hI h 66 4) (hI h 66 5) = _ := if_neg (by rw [ta.2.2.1]; omega)
  refine g_wV (pc := 16) (as := [.int (hI h 66 1), .int (hI h 66 2), .int (hI h 66 3), .int (hI h 66 4), .int (hI h 66 5)]) (b := 0) (ci := 4) dL_flush_16 (lc_RL_13 rfl) ceX4_append k0 (prN_st (by omega) (by omega)) (sp_append (d := d) m) rfl rfl (Nat.le_of_ble_eq_true rfl) (fun E h2 y => by have y1 := y.1; rw [eo] at y1; cases y1) (fun v2 h2 y => y.2.2.1) (fun v2 H y => ?_)
  obtain ⟨y1, y2, y3⟩ := y
  rw [eo] at y1 y2
  have y1 : Sum.inl v2 = Sum.inl (some (.int (nI (tB t + 20)))) := y1
  cases y1
  show AW X mL_flush (d + 101) 0 0 19 [(0, .ref 0), (1, .ref 66)] (.int (nI (tB t + 20)) :: []) H _
  have p66 : prN (hN H) 66 := prN_st (by rw [y3.1]; omega) (by omega)
  have hu := y3.2 66 (Nat.le_refl _)
  have ed : Dq S67 0 h H := (y3.dq hn).mono (fun a z => by show a < 67; omega)
  refine a_pop (pc := 19) dL_flush_19 rfl ?_
  refine a_iconst (pc := 20) (v := nI 1) dL_flush_20 (by decide) ?_
  refine a_istore_n (pc := 21) (i := 2) (ls' := [(0, .ref 0), (1, .ref 66), (2, .int (nI 1))]) dL_flush_21 rfl (by decide) rfl ?_
  have LP : ∀ (fu : Nat) (i : Nat) (G : AH), 1 ≤ i ∧ i ≤ 6 → Fr [66] H G → (∀ w, 1 ≤ w → w < i → hI G 66 w = 0) → hI G 66 0 = hI H 66 0 → 6 - i < fu → AW X mL_flush (d + 101) 0 0 22 [(0, .ref 0), (1, .ref 66), (2, .int (nI i))] [] G (Qu (QFl t0 T b h)) := by
    intro fu
    induction fu with
    | zero => intro i G hi hf hz0 h0 hz; exact absurd hz (Nat.not_lt_zero _)
    | succ fu ih =>
      intro i G hi hf hz0 h0 hz
      have p66 : prN (hN G) 66 := by rw [hf.1]; exact p66
      refine a_iload_n (pc := 22) (i := 2) dL_flush_22 rfl rfl ?_
      refine a_bipush (pc := 23) (v := nI 6) dL_flush_23 (by decide) ?_
      refine n_icmp_ge (pc := 25) (tgt := 38) dL_flush_25 (by decide) (by omega) (by omega) (fun c25 => ?_) (fun c25 => ?_)
      · have ei : i = 6 := by omega
        have dq : Dq S67 0 H G := (hf.dq (by rw [y3.1]; omega)).mono (fun a z => by show a < 67; have := List.mem_singleton.mp z; omega)
        have im := y2.dq (hf.dq (by rw [y3.1]; omega)) (fun a z => by have := List.mem_singleton.mp z; omega)
        exact a_return (pc := 38) dL_flush_38 rfl (⟨rfl, ⟨_, im, e5.1.trans ta.1, e5.2.1.trans ta.2.1, e5.2.2⟩, fun w hw5 => hz0 (1 + w) (by omega) (by omega), h0.trans (by rw [hu.1]), ed.trans dq, hf.1.trans y3.1⟩)
      · skip
        refine a_aload_n (pc := 28) (i := 1) dL_flush_28 rfl rfl ?_
        refine a_iload_n (pc := 29) (i := 2) dL_flush_29 rfl rfl ?_
        refine a_iconst (pc := 30) (v := nI 0) dL_flush_30 (by decide) ?_
        refine g_iast (pc := 31) (j := i) dL_flush_31 k66 p66 rfl (by omega) ?_
        refine n_iinc (pc := 32) (k := 1) (ls' := [(0, .ref 0), (1, .ref 66), (2, .int (nI (i + 1)))]) dL_flush_32 rfl (by decide) (by decide) rfl ?_
        refine a_goto (pc := 35) (tgt := 22) dL_flush_35 (by decide) ?_
        exact ih (i + 1) _ (by omega) (hf.sI (List.mem_singleton.mpr rfl)) (fun w h1 h2 => by
      rw [hI_sI]
      by_cases e : w = i
      · rw [if_pos ⟨rfl, e⟩]; rfl
      · rw [if_neg (fun z => e z.2)]; exact hz0 w h1 (by omega)) (by rw [hI_sI, if_neg (fun z => absurd z.2 (by omega))]; exact h0) (by omega)
  exact LP 6 1 H (by omega) Fr.refl (fun w h1 h2 => absurd h1 (by omega)) rfl (by omega)
