/-! changes of the whole object -/
/-- ends as v, in the state t -/
def Qw (v : Res) (t : ST) (h : AH) : Res → AH → Prop := fun r h2 => r = v ∧ IM h2 t ∧ Fw h h2
theorem tRem_c (t : ST) : tC (tRem t) = tC t := by unfold tRem; split <;> rfl
theorem IM0.cur {h h2 : AH} {t : ST} {s : SH} (m : IM0 h t) (f : Fr [2, 3, 4, 5] h h2) (r : CR h2 2 s) (g : GS s) : IM0 h2 (s, t.2) := by
  obtain ⟨c, g0, r0, ⟨b1, b2⟩, e2, e5, w, w1, w2⟩ := m
  have z0 := (f.2.2 0 (by simp)).1
  refine ⟨c.fr f, ⟨g, g0.2⟩, r, ⟨(congrFun z0 1).trans b1, fun j hj => by rw [(f.2.2 1 (by simp)).1]; exact b2 j hj⟩, (congrFun z0 2).trans e2, (congrFun z0 5).trans e5, w, ⟨fun i hi => by rw [f.2.1]; exact w1.1 i hi, w1.2⟩, fun i hi => (w2 i hi).fr f (fun a h1 h3 => by simp; omega)⟩
theorem IM.z {h2 : AH} {t : ST} (m : IM0 h2 t) (h9 : hI h2 0 9 = 0) : IM h2 t := ⟨m, Or.inl h9⟩
def withS (s : SH) (n : Nat) : SH := ((sW s, sH s, n), s.2)
theorem CR_withS {h : AH} {s : SH} (r : CR h 2 s) {n : Nat} : CR (sI h 2 2 (nI n)) 2 (withS s n) := by
  refine CR_of ?_ ?_ ?_ ?_ ?_ ?_ ?_ ?_ ?_ ?_
  · simp (disch := omega) only [rd1, rd2, rd3, rd4, rd5, rd6, rd7, hI_sL, hL_sI, hL_rI]; exact r.1.1
  · simp (disch := omega) only [rd1, rd2, rd3, rd4, rd5, rd6, rd7, hI_sL, hL_sI, hL_rI]; exact r.1.2.1
  · simp (disch := omega) only [rd1, rd2, rd3, rd4, rd5, rd6, rd7, hI_sL, hL_sI, hL_rI]; rfl
  · simp (disch := omega) only [rd1, rd2, rd3, rd4, rd5, rd6, rd7, hI_sL, hL_sI, hL_rI]; exact r.1.2.2.2.1
  · simp (disch := omega) only [rd1, rd2, rd3, rd4, rd5, rd6, rd7, hI_sL, hL_sI, hL_rI]; exact r.1.2.2.2.2.1
  · simp (disch := omega) only [rd1, rd2, rd3, rd4, rd5, rd6, rd7, hI_sL, hL_sI, hL_rI]; exact r.1.2.2.2.2.2.1
  · simp (disch := omega) only [rd1, rd2, rd3, rd4, rd5, rd6, rd7, hI_sL, hL_sI, hL_rI]; exact r.1.2.2.2.2.2.2
  · intro q h1 h2; simp (disch := omega) only [rd1, rd2, rd3, rd4, rd5, rd6, rd7, hI_sL, hL_sI, hL_rI]; exact r.2.1 q h1 h2
  · intro x y h1 h2; simp (disch := omega) only [rd1, rd2, rd3, rd4, rd5, rd6, rd7, hI_sL, hL_sI, hL_rI]; exact r.2.2.1 x y h1 h2
  · intro j h1; simp (disch := omega) only [rd1, rd2, rd3, rd4, rd5, rd6, rd7, hI_sL, hL_sI, hL_rI]; exact r.2.2.2 j h1
theorem GS_withS {s : SH} (g : GS s) {n : Nat} (hn : 1 ≤ n ∧ n ≤ 9) : GS (withS s n) := ⟨g.1, g.2.1, hn, g.2.2.2⟩
theorem ge_n {x : Int32} {k : Nat} (hk : k < 1000) (h : ¬ x < nI k) : ∃ n, n < 2 ^ 31 ∧ k ≤ n ∧ x = nI n := by
  have h0 : ¬ x < 0 := fun z => h (by
    rw [Int32.lt_iff_toInt_lt] at z ⊢
    rw [nI_toInt (by omega)]
    have : (0 : Int32).toInt = 0 := rfl
    omega)
  obtain ⟨n, hn, rfl⟩ := nI_of h0
  exact ⟨n, hn, Nat.le_of_not_lt fun z => h ((nI_ltI hn (by omega)).mpr z), rfl⟩
noncomputable def oLeast (t : ST) (x : Int32) : Res × ST := cif (∃ n, (1 ≤ n ∧ n ≤ 9) ∧ x = nI n) (ri (nI (sS (tC t))), (withS (tC t) (i2n x), (tRem t).2)) (.inr eIA, t)
noncomputable def oUndo (t : ST) : Res × ST := cif (tN t = 0) (ri (-1), t) (ri (nI (tN t - 1)), (tP t (tN t - 1), (tB t, tY t), tE t, (tN t - 1, tP t)))
set_option maxHeartbeats 1500000 in
set_option maxRecDepth 100000 in
theorem sp_least {d : Nat} {h : AH} {t : ST} {x : Int32} (m : IM h t) : AC mX4_least (d + 100) 1 6 [.ref 0, .int x] h (Qw (oLeast t x).1 (oLeast t x).2 h) := by
  have m0 := m.1
  have c := m0.1
  have g := m0.2.1.1
  have r := m0.2.2.1
  have hn := c.1
  have gl := g.2.2.2.2.2.1
  have gs := g.2.2.1
  have gw := g.1
  have gh := g.2.1
  refine AC.of (by decide) rfl (Nat.le_of_ble_eq_true rfl) (fun X => ?_)
  show AW X mX4_least (d + 100) 1 6 0 [(0, .ref 0), (1, .int x)] [] h (Qw (oLeast t x).1 (oLeast t x).2 h)
  refine a_iload_n (pc := 0) (i := 1) dX4_least_0 rfl rfl ?_
  refine a_iconst (pc := 1) (v := nI 1) dX4_least_1 (by decide) ?_
  refine a_icmp_lt (pc := 2) (tgt := 11) dX4_least_2 (by decide) (fun c2 => ?_) (fun c2 => ?_)
  · have e : oLeast t x = _ := cif_f (fun ⟨n, h1, h2⟩ => by rw [h2] at c2; have := (nI_ltI (by omega) (by omega)).mp c2; omega)
    exact a_throw (kc := 0) (ks := 0) th_X4_least_11 (by omega) (Nat.le_of_ble_eq_true rfl) (⟨by rw [e], by rw [e]; exact m, Fw.refl⟩)
  · obtain ⟨n, hn31, hn1, rfl⟩ := ge_n (by omega) c2
    refine a_iload_n (pc := 5) (i := 1) dX4_least_5 rfl rfl ?_
    refine a_bipush (pc := 6) (v := nI 9) dX4_least_6 (by decide) ?_
    refine n_icmp_le (pc := 8) (tgt := 19) dX4_least_8 (by decide) (by omega) (by omega) (fun c8 => ?_) (fun c8 => ?_)
    · have e : oLeast t (nI n) = _ := cif_t ⟨n, ⟨hn1, c8⟩, rfl⟩
      rw [i2n_nI hn31] at e
      refine a_aload_n (pc := 19) (i := 0) dX4_least_19 rfl rfl ?_
      refine a_uV (pc := 20) (as := []) (b := 0) (ci := 4) dX4_least_20 (lc_RX4_73 rfl) ceX4_remember rfl (lt90 hn (shK_lt (show shK 0 = _ from rfl))) (sp_remember m0) rfl rfl (Nat.le_of_ble_eq_true rfl) (fun h2 y => y.2.1.1) (fun H y => ?_)
      obtain ⟨m1, fw1, h91, fv1⟩ := y
      have c1 := m1.1
      have r1 := m1.2.2.1
      rw [tRem_c] at r1
      have hnr := c1.1
      refine a_aload_n (pc := 23) (i := 0) dX4_least_23 rfl rfl ?_
      refine a_getR (pc := 24) (ci := 4) (k := 3) (b := 2) dX4_least_24 (lf_RX4_23 rfl) (by decide) rfl rfl (lt90 hnr (shK_lt (show shK 0 = _ from rfl))) c1.2.1.2.1 ?_
      refine a_getI (pc := 27) (ci := 3) (k := 2) dX4_least_27 (lf_RX4_93 rfl) (by decide) rfl rfl (lt90 hnr (shK_lt (show shK 2 = _ from rfl))) ?_
      refine a_top (show (.int (hI H 2 2) : Value) = .int (nI (sS (tC t))) from congrArg Value.int r1.1.2.2.1) ?_
      refine a_istore_n (pc := 30) (i := 2) (ls' := [(0, .ref 0), (1, .int (nI n)), (2, .int (nI (sS (tC t))))]) dX4_least_30 rfl (by decide) rfl ?_
      refine a_aload_n (pc := 31) (i := 0) dX4_least_31 rfl rfl ?_
      refine a_getR (pc := 32) (ci := 4) (k := 3) (b := 2) dX4_least_32 (lf_RX4_23 rfl) (by decide) rfl rfl (lt90 hnr (shK_lt (show shK 0 = _ from rfl))) c1.2.1.2.1 ?_
      refine a_iload_n (pc := 35) (i := 1) dX4_least_35 rfl rfl ?_
      refine a_putI (pc := 36) (ci := 3) (k := 2) dX4_least_36 (lf_RX4_93 rfl) (by decide) (Or.inl rfl) rfl (lt90 hnr (shK_lt (show shK 2 = _ from rfl))) rfl ?_
      refine a_iload_n (pc := 39) (i := 2) dX4_least_39 rfl rfl ?_
      exact a_ireturn (pc := 40) dX4_least_40 rfl rfl (⟨by rw [e]; rfl, by rw [e]; exact IM.z (m1.cur (Fr.refl.sI (by simp)) (CR_withS r1) (GS_withS g ⟨hn1, c8⟩)) (by simp (disch := omega) only [rd1, rd2, rd3, rd4, rd5, rd6, rd7, hI_sL, hL_sI, hL_rI]; exact h91), fw1.trans (Fr.w (S := [2]) (Fr.refl.sI (by simp)) (by simp))⟩)
    · have e : oLeast t (nI n) = _ := cif_f (fun ⟨k, h1, h2⟩ => by have := (nI_eq hn31 (by omega)).mp h2; omega)
      exact a_throw (kc := 0) (ks := 0) th_X4_least_11 (by omega) (Nat.le_of_ble_eq_true rfl) (⟨by rw [e], by rw [e]; exact m, Fw.refl⟩)
set_option maxHeartbeats 1500000 in
set_option maxRecDepth 100000 in
theorem sp_undo {d : Nat} {h : AH} {t : ST} (m : IM h t) : AC mX4_undo (d + 100) 0 0 [.ref 0] h (Qw (oUndo t).1 (oUndo t).2 h) := by
  have m0 := m.1
  have c := m0.1
  have g := m0.2.1.1
  have r := m0.2.2.1
  have hn := c.1
  have gl := g.2.2.2.2.2.1
  have gs := g.2.2.1
  have gw := g.1
  have gh := g.2.1
  refine AC.of (by decide) rfl (Nat.le_of_ble_eq_true rfl) (fun X => ?_)
  show AW X mX4_undo (d + 100) 0 0 0 [(0, .ref 0)] [] h (Qw (oUndo t).1 (oUndo t).2 h)
  have g8 := m0.2.1.2.2.2.1
  have m00 := m0
  obtain ⟨-, gt, -, b0, e2, e5, w, w1, w2⟩ := m00
  refine a_aload_n (pc := 0) (i := 0) dX4_undo_0 rfl rfl ?_
  refine a_getI (pc := 1) (ci := 4) (k := 5) dX4_undo_1 (lf_RX4_31 rfl) (by decide) rfl rfl (lt90 hn (shK_lt (show shK 0 = _ from rfl))) ?_
  refine a_top (show (.int (hI h 0 5) : Value) = .int (nI (tN t)) from congrArg Value.int e5) ?_
  refine n_if_le (pc := 4) (tgt := 16) dX4_undo_4 (by decide) (by omega) (fun c4 => ?_) (fun c4 => ?_)
  · have e : oUndo t = _ := cif_t c4
    refine a_iconst (pc := 16) (v := (-1)) dX4_undo_16 (by decide) ?_
    exact a_ireturn (pc := 17) dX4_undo_17 rfl rfl (⟨by rw [e]; rfl, by rw [e]; exact m, Fw.refl⟩)
  · have e : oUndo t = _ := cif_f (by omega)
    have hw := (w1.1 (tN t - 1) (by omega)).1
    refine a_aload_n (pc := 7) (i := 0) dX4_undo_7 rfl rfl ?_
    refine a_getI (pc := 8) (ci := 4) (k := 5) dX4_undo_8 (lf_RX4_31 rfl) (by decide) rfl rfl (lt90 hn (shK_lt (show shK 0 = _ from rfl))) ?_
    refine a_top (show (.int (hI h 0 5) : Value) = .int (nI (tN t)) from congrArg Value.int e5) ?_
    refine a_bipush (pc := 11) (v := nI 8) dX4_undo_11 (by decide) ?_
    refine n_icmp_le (pc := 13) (tgt := 18) dX4_undo_13 (by decide) (by omega) (by omega) (fun c13 => ?_) (fun c13 => ?_)
    · skip
      refine a_aload_n (pc := 18) (i := 0) dX4_undo_18 rfl rfl ?_
      refine a_dup (pc := 19) dX4_undo_19 rfl ?_
      refine a_getI (pc := 20) (ci := 4) (k := 5) dX4_undo_20 (lf_RX4_31 rfl) (by decide) rfl rfl (lt90 hn (shK_lt (show shK 0 = _ from rfl))) ?_
      refine a_top (show (.int (hI h 0 5) : Value) = .int (nI (tN t)) from congrArg Value.int e5) ?_
      refine a_iconst (pc := 23) (v := nI 1) dX4_undo_23 (by decide) ?_
      refine n_isub (pc := 24) dX4_undo_24 (by omega) ?_
      refine a_putI (pc := 25) (ci := 4) (k := 5) dX4_undo_25 (lf_RX4_31 rfl) (by decide) (Or.inl rfl) rfl (lt90 hn (shK_lt (show shK 0 = _ from rfl))) rfl ?_
      obtain ⟨H, hH⟩ : ∃ Hx, Hx = sI h 0 5 (nI ((tN t) - 1)) := ⟨_, rfl⟩
      have fH : Fr [0] h H := by rw [hH]; exact Fr.refl.sI (by simp)
      have k5 : hI H 0 5 = nI (tN t - 1) := by rw [hH]; exact rd2 ⟨rfl, rfl⟩
      have k0 : ∀ j, j ≠ 5 → hI H 0 j = hI h 0 j := fun j hj => by rw [hH]; exact rd1 (by omega)
      refine a_heap (h' := H) hH.symm ?_
      have c1 := c.fr fH
      have hn1 := c1.1
      refine a_aload_n (pc := 28) (i := 0) dX4_undo_28 rfl rfl ?_
      refine a_getR (pc := 29) (ci := 4) (k := 4) (b := 6) dX4_undo_29 (lf_RX4_27 rfl) (by decide) rfl rfl (lt90 hn1 (shK_lt (show shK 0 = _ from rfl))) c1.2.1.2.2.1 ?_
      refine a_aload_n (pc := 32) (i := 0) dX4_undo_32 rfl rfl ?_
      refine a_getI (pc := 33) (ci := 4) (k := 5) dX4_undo_33 (lf_RX4_31 rfl) (by decide) rfl rfl (lt90 hn1 (shK_lt (show shK 0 = _ from rfl))) ?_
      refine a_top (show (.int (hI H 0 5) : Value) = .int (nI (tN t - 1)) from congrArg Value.int k5) ?_
      refine a_aald (pc := 36) (j := (tN t - 1)) (b := (34 + 4 * w (tN t - 1))) dX4_undo_36 rfl (lt90 hn1 (shK_lt (show shK 6 = _ from rfl))) rfl (by omega) (by rw [fH.2.1]; exact (w1.1 (tN t - 1) (by omega)).2) ?_
      refine a_astore_n (pc := 37) (i := 1) (ls' := [(0, .ref 0), (1, .ref (34 + 4 * w (tN t - 1)))]) dX4_undo_37 rfl (by decide) rfl ?_
      refine a_aload_n (pc := 38) (i := 1) dX4_undo_38 rfl rfl ?_
      refine a_ifnull (pc := 39) dX4_undo_39 ?_
      refine a_aload_n (pc := 42) (i := 0) dX4_undo_42 rfl rfl ?_
      refine a_getR (pc := 43) (ci := 4) (k := 3) (b := 2) dX4_undo_43 (lf_RX4_23 rfl) (by decide) rfl rfl (lt90 hn1 (shK_lt (show shK 0 = _ from rfl))) c1.2.1.2.1 ?_
      refine a_aload_n (pc := 46) (i := 1) dX4_undo_46 rfl rfl ?_
      have rk := (w2 (tN t - 1) (by omega)).fr fH (fun a h1 h3 => by simp; omega)
      refine a_wVN0 (pc := 47) (as := [.ref (34 + 4 * w (tN t - 1))]) (b := 2) (ci := 3) dX4_undo_47 (lc_RX4_79 rfl) ceX3_copyFrom rfl (lt90 hn1 (shK_lt (show shK 2 = _ from rfl))) (sp_copyFrom c1 (gt.2.2.2.2 (tN t - 1)) (Or.inl rfl) (shP hw) (by omega) rk) rfl rfl (Nat.le_of_ble_eq_true rfl) (fun H2 f2 r2 => ?_)
      have f2b : Fr [2, 3, 4, 5] H H2 := f2
      have c2 := c1.fr f2
      have hn2 := c2.1
      have z0 := (f2b.2.2 0 (by simp)).1
      refine a_aload_n (pc := 50) (i := 0) dX4_undo_50 rfl rfl ?_
      refine a_iconst (pc := 51) (v := nI 0) dX4_undo_51 (by decide) ?_
      refine a_putI (pc := 52) (ci := 4) (k := 9) dX4_undo_52 (lf_RX4_55 rfl) (by decide) (Or.inr ⟨rfl, (by decide)⟩) rfl (lt90 hn2 (shK_lt (show shK 0 = _ from rfl))) rfl ?_
      obtain ⟨HF, hHF⟩ : ∃ Hx, Hx = sI H2 0 9 (nI 0) := ⟨_, rfl⟩
      have fF : Fr [0, 2, 3, 4, 5] h HF := by rw [hHF]; exact ((fH.mono (by intro a ha; simp at ha ⊢; omega)).trans (f2b.mono (by intro a ha; simp at ha ⊢; omega))).sI (by simp)
      have k9 : hI HF 0 9 = 0 := by rw [hHF]; exact rd2 ⟨rfl, rfl⟩
      have kj : ∀ j, j ≠ 9 → hI HF 0 j = hI H 0 j := fun j hj => by rw [hHF, rd1 (by omega)]; exact congrFun z0 j
      have rF : CR HF 2 (tP t (tN t - 1)) := by rw [hHF]; exact r2.sI (by omega)
      refine a_heap (h' := HF) hHF.symm ?_
      have c3 := c.fr fF
      have hn3 := c3.1
      refine a_aload_n (pc := 55) (i := 0) dX4_undo_55 rfl rfl ?_
      refine a_getI (pc := 56) (ci := 4) (k := 5) dX4_undo_56 (lf_RX4_31 rfl) (by decide) rfl rfl (lt90 hn3 (shK_lt (show shK 0 = _ from rfl))) ?_
      refine a_top (show (.int (hI HF 0 5) : Value) = .int (nI (tN t - 1)) from congrArg Value.int ((kj 5 (by omega)).trans k5)) ?_
      exact a_ireturn (pc := 59) dX4_undo_59 rfl rfl (⟨by rw [e]; rfl, by rw [e]; exact IM.z ⟨c3, ⟨gt.2.2.2.2 _, gt.2.1, gt.2.2.1, by show tN t - 1 ≤ 8; omega, gt.2.2.2.2⟩, rF, ⟨((kj 1 (by omega)).trans (k0 1 (by omega))).trans b0.1, fun j hj => by rw [(fF.2.2 1 (by simp)).1]; exact b0.2 j hj⟩, ((kj 2 (by omega)).trans (k0 2 (by omega))).trans e2, (kj 5 (by omega)).trans k5, w, ⟨fun i hi => by rw [fF.2.1]; exact w1.1 i hi, w1.2⟩, fun i hi => by have hi : i < tN t - 1 := hi; exact (w2 i (by omega)).fr fF (fun a h1 h3 => by simp; omega)⟩ k9, fF.w (by simp)⟩)
    · exact absurd c13 (by omega)
