/-! errorOffset, fewest, append -/
/-- byte j of a word -/
def byt (w : Int32) (j : Nat) : Int32 := (w >>> (nI (24 - 8 * j) &&& 31)).toInt8.toInt32
def tApp1 (t : ST) (w : Int32) : ST := (tC t, (tB t + 4, fun m => if m < tB t then tY t m else byt w (m - tB t)), t.2.2)
def oApp (t : ST) (w0 w1 w2 w3 w4 : Int32) : Res × ST := if 400 < tB t + 20 then (ri (-1), t) else (ri (nI (tB t + 20)), tApp1 (tApp1 (tApp1 (tApp1 (tApp1 t w0) w1) w2) w3) w4)
theorem i8_2 (x : Int32) : x.toInt8.toInt32.toInt8.toInt32 = x.toInt8.toInt32 := by rw [Int8.toInt8_toInt32]
/-- the buffer grows -/
theorem IM.buf {h h2 : AH} {t : ST} (m : IM h t) (f : Fr [0, 1] h h2) (h0 : ∀ j, j ≠ 1 → hI h2 0 j = hI h 0 j) {b : Nat} {Y : Nat → Int32} (hb : hI h2 0 1 = nI b) (hb4 : b ≤ 400) (hy : ∀ j, ∃ z : Int8, Y j = z.toInt32) (hY : ∀ j, j < b → hI h2 1 j = Y j) : IM h2 (tC t, (b, Y), t.2.2) := by
  obtain ⟨⟨c, g0, r0, -, e2, e5, w, w1, w2⟩, hk⟩ := m
  refine ⟨⟨c.fr f, ⟨g0.1, hb4, hy, g0.2.2.2⟩, r0.fr f (fun a h1 h3 => by simp; omega), ⟨hb, hY⟩, (h0 2 (by omega)).trans e2, (h0 5 (by omega)).trans e5, w, ⟨fun i hi => by rw [f.2.1]; exact w1.1 i hi, w1.2⟩, fun i hi => (w2 i hi).fr f (fun a h1 h3 => by simp; omega)⟩, ?_⟩
  rcases hk with hk | ⟨k1, k2, k3⟩
  · exact Or.inl ((h0 9 (by omega)).trans hk)
  · exact Or.inr ⟨(h0 9 (by omega)).trans k1, k2, k3.row (fun a h1 h3 => f.2.2 a (by simp; omega))⟩
set_option maxHeartbeats 1500000 in
set_option maxRecDepth 100000 in
theorem sp_errorOffset {d : Nat} {h : AH} {t : ST} (m : IM h t) : AC mX4_errorOffset (d + 100) 0 0 [.ref 0] h (Qw (ri (tE t)) t h) := by
  have m0 := m.1
  have c := m0.1
  have g := m0.2.1.1
  have r := m0.2.2.1
  have hn := c.1
  have gl := g.2.2.2.2.2.1
  have gs := g.2.2.1
  have gw := g.1
  have gh := g.2.1
  refine AC.of (by decide) rfl (Nat.le_of_ble_eq_true rfl) (fun X => ?_)
  show AW X mX4_errorOffset (d + 100) 0 0 0 [(0, .ref 0)] [] h (Qw (ri (tE t)) t h)
  refine a_aload_n (pc := 0) (i := 0) dX4_errorOffset_0 rfl rfl ?_
  refine a_getI (pc := 1) (ci := 4) (k := 2) dX4_errorOffset_1 (lf_RX4_17 rfl) (by decide) rfl rfl (lt90 hn (shK_lt (show shK 0 = _ from rfl))) ?_
  refine a_top (show (.int (hI h 0 2) : Value) = .int (tE t) from congrArg Value.int m0.2.2.2.2.1) ?_
  exact a_ireturn (pc := 4) dX4_errorOffset_4 rfl rfl (⟨rfl, m, Fw.refl⟩)
set_option maxHeartbeats 1500000 in
set_option maxRecDepth 100000 in
theorem sp_putWord {d : Nat} {h : AH} {t : ST} {x : Int32} (m : IM h t) (hb : tB t + 4 ≤ 400) : AC mX4_putWord (d + 2) 0 0 [.ref 0, .int x] h (Qu (fun h2 => IM h2 (tApp1 t x) ∧ Fw h h2)) := by
  have m0 := m.1
  have c := m0.1
  have g := m0.2.1.1
  have r := m0.2.2.1
  have hn := c.1
  have gl := g.2.2.2.2.2.1
  have gs := g.2.2.1
  have gw := g.1
  have gh := g.2.1
  refine AC.of (by decide) rfl (Nat.le_of_ble_eq_true rfl) (fun X => ?_)
  show AW X mX4_putWord (d + 2) 0 0 0 [(0, .ref 0), (1, .int x)] [] h (Qu (fun h2 => IM h2 (tApp1 t x) ∧ Fw h h2))
  have b0 := m0.2.2.2.1
  have f0 : Fr [0, 1] h h := Fr.refl
  have n0 : hI h 0 1 = nI (tB t + 0) := b0.1
  have z0 : ∀ j, j ≠ 1 → hI h 0 j = hI h 0 j := fun _ _ => rfl
  have y0 : ∀ j, j < tB t + 0 → hI h 1 j = if j < tB t then tY t j else byt x (j - tB t) := fun j hj => by rw [if_pos (by omega)]; exact b0.2 j (by omega)
  refine a_bipush (pc := 0) (v := nI 24) dX4_putWord_0 (by decide) ?_
  refine a_istore_n (pc := 2) (i := 2) (ls' := [(0, .ref 0), (1, .int x), (2, .int (nI 24))]) dX4_putWord_2 rfl (by decide) rfl ?_
  have cc0 := c.fr f0
  have hh0 := cc0.1
  refine a_iload_n (pc := 3) (i := 2) dX4_putWord_3 rfl rfl ?_
  refine n_if_lt (pc := 4) (tgt := 53) dX4_putWord_4 (by decide) (by omega) ?_
  refine a_aload_n (pc := 7) (i := 0) dX4_putWord_7 rfl rfl ?_
  refine a_getI (pc := 8) (ci := 4) (k := 1) dX4_putWord_8 (lf_RX4_13 rfl) (by decide) rfl rfl (lt90 hh0 (shK_lt (show shK 0 = _ from rfl))) ?_
  refine a_top (show (.int (hI h 0 1) : Value) = .int (nI (tB t + 0)) from congrArg Value.int n0) ?_
  refine n_if_lt (pc := 11) (tgt := 47) dX4_putWord_11 (by decide) (by omega) ?_
  refine a_aload_n (pc := 14) (i := 0) dX4_putWord_14 rfl rfl ?_
  refine a_getI (pc := 15) (ci := 4) (k := 1) dX4_putWord_15 (lf_RX4_13 rfl) (by decide) rfl rfl (lt90 hh0 (shK_lt (show shK 0 = _ from rfl))) ?_
  refine a_top (show (.int (hI h 0 1) : Value) = .int (nI (tB t + 0)) from congrArg Value.int n0) ?_
  refine a_sipush (pc := 18) (v := nI 400) dX4_putWord_18 (by decide) ?_
  refine n_icmp_ge (pc := 21) (tgt := 47) dX4_putWord_21 (by decide) (by omega) (by omega) (fun c21 => ?_) (fun c21 => ?_)
  · exact absurd c21 (by omega)
  · skip
    refine a_aload_n (pc := 24) (i := 0) dX4_putWord_24 rfl rfl ?_
    refine a_getR (pc := 25) (ci := 4) (k := 0) (b := 1) dX4_putWord_25 (lf_RX4_9 rfl) (by decide) rfl rfl (lt90 hh0 (shK_lt (show shK 0 = _ from rfl))) cc0.2.1.1 ?_
    refine a_aload_n (pc := 28) (i := 0) dX4_putWord_28 rfl rfl ?_
    refine a_getI (pc := 29) (ci := 4) (k := 1) dX4_putWord_29 (lf_RX4_13 rfl) (by decide) rfl rfl (lt90 hh0 (shK_lt (show shK 0 = _ from rfl))) ?_
    refine a_top (show (.int (hI h 0 1) : Value) = .int (nI (tB t + 0)) from congrArg Value.int n0) ?_
    refine a_iload_n (pc := 32) (i := 1) dX4_putWord_32 rfl rfl ?_
    refine a_iload_n (pc := 33) (i := 2) dX4_putWord_33 rfl rfl ?_
    refine a_ishr (pc := 34) dX4_putWord_34 ?_
    refine a_i2b (pc := 35) dX4_putWord_35 ?_
    refine a_bast (pc := 36) (j := (tB t + 0)) dX4_putWord_36 rfl (lt90 hh0 (shK_lt (show shK 1 = _ from rfl))) rfl (by omega) ?_
    refine a_aload_n (pc := 37) (i := 0) dX4_putWord_37 rfl rfl ?_
    refine a_dup (pc := 38) dX4_putWord_38 rfl ?_
    refine a_getI (pc := 39) (ci := 4) (k := 1) dX4_putWord_39 (lf_RX4_13 rfl) (by decide) rfl rfl (lt90 hh0 (shK_lt (show shK 0 = _ from rfl))) ?_
    refine a_top (show (.int (hI (sI h 1 (tB t + 0) ((x >>> ((nI 24) &&& 31)).toInt8.toInt32).toInt8.toInt32) 0 1) : Value) = .int (nI (tB t + 0)) from congrArg Value.int ((show _ = _ from by simp (disch := omega) only [rd1, rd2, rd3, rd4, rd5, rd6, rd7, hI_sL, hL_sI, hL_rI]).trans n0)) ?_
    refine a_iconst (pc := 42) (v := nI 1) dX4_putWord_42 (by decide) ?_
    refine n_iadd (pc := 43) dX4_putWord_43 ?_
    refine a_putI (pc := 44) (ci := 4) (k := 1) dX4_putWord_44 (lf_RX4_13 rfl) (by decide) (Or.inl rfl) rfl (lt90 hh0 (shK_lt (show shK 0 = _ from rfl))) rfl ?_
    obtain ⟨H1, hH1⟩ : ∃ Hx, Hx = sI (sI h 1 (tB t + 0) ((x >>> ((nI 24) &&& 31)).toInt8.toInt32).toInt8.toInt32) 0 1 (nI ((tB t + 0) + 1)) := ⟨_, rfl⟩
    have f1 : Fr [0, 1] h H1 := by rw [hH1]; exact (f0.sI (by simp)).sI (by simp)
    have n1 : hI H1 0 1 = nI (tB t + 1) := by rw [hH1]; exact rd2 ⟨rfl, rfl⟩
    have z1 : ∀ j, j ≠ 1 → hI H1 0 j = hI h 0 j := fun j hj => by rw [hH1, rd1 (by omega)]; exact (rd1 (by omega)).trans (z0 j hj)
    have y1 : ∀ j, j < tB t + 1 → hI H1 1 j = if j < tB t then tY t j else byt x (j - tB t) := fun j hj => by
      rw [hH1, rd1 (by omega)]
      by_cases e : j = tB t + 0
      · rw [rd2 ⟨rfl, e⟩, if_neg (by omega), show j - tB t = 0 by omega, i8_2]; rfl
      · rw [rd1 (by omega)]; exact y0 j (by omega)
    refine a_heap (h' := H1) hH1.symm ?_
    refine a_iinc (pc := 47) (i := 2) (ls' := [(0, .ref 0), (1, .int x), (2, .int (nI 16))]) dX4_putWord_47 rfl (by decide) (by decide) rfl ?_
    refine a_goto (pc := 50) (tgt := 3) dX4_putWord_50 (by decide) ?_
    have cc1 := c.fr f1
    have hh1 := cc1.1
    refine a_iload_n (pc := 3) (i := 2) dX4_putWord_3 rfl rfl ?_
    refine n_if_lt (pc := 4) (tgt := 53) dX4_putWord_4 (by decide) (by omega) ?_
    refine a_aload_n (pc := 7) (i := 0) dX4_putWord_7 rfl rfl ?_
    refine a_getI (pc := 8) (ci := 4) (k := 1) dX4_putWord_8 (lf_RX4_13 rfl) (by decide) rfl rfl (lt90 hh1 (shK_lt (show shK 0 = _ from rfl))) ?_
    refine a_top (show (.int (hI H1 0 1) : Value) = .int (nI (tB t + 1)) from congrArg Value.int n1) ?_
    refine n_if_lt (pc := 11) (tgt := 47) dX4_putWord_11 (by decide) (by omega) ?_
    refine a_aload_n (pc := 14) (i := 0) dX4_putWord_14 rfl rfl ?_
    refine a_getI (pc := 15) (ci := 4) (k := 1) dX4_putWord_15 (lf_RX4_13 rfl) (by decide) rfl rfl (lt90 hh1 (shK_lt (show shK 0 = _ from rfl))) ?_
    refine a_top (show (.int (hI H1 0 1) : Value) = .int (nI (tB t + 1)) from congrArg Value.int n1) ?_
    refine a_sipush (pc := 18) (v := nI 400) dX4_putWord_18 (by decide) ?_
    refine n_icmp_ge (pc := 21) (tgt := 47) dX4_putWord_21 (by decide) (by omega) (by omega) (fun c21 => ?_) (fun c21 => ?_)
    · exact absurd c21 (by omega)
    · skip
      refine a_aload_n (pc := 24) (i := 0) dX4_putWord_24 rfl rfl ?_
      refine a_getR (pc := 25) (ci := 4) (k := 0) (b := 1) dX4_putWord_25 (lf_RX4_9 rfl) (by decide) rfl rfl (lt90 hh1 (shK_lt (show shK 0 = _ from rfl))) cc1.2.1.1 ?_
      refine a_aload_n (pc := 28) (i := 0) dX4_putWord_28 rfl rfl ?_
      refine a_getI (pc := 29) (ci := 4) (k := 1) dX4_putWord_29 (lf_RX4_13 rfl) (by decide) rfl rfl (lt90 hh1 (shK_lt (show shK 0 = _ from rfl))) ?_
      refine a_top (show (.int (hI H1 0 1) : Value) = .int (nI (tB t + 1)) from congrArg Value.int n1) ?_
      refine a_iload_n (pc := 32) (i := 1) dX4_putWord_32 rfl rfl ?_
      refine a_iload_n (pc := 33) (i := 2) dX4_putWord_33 rfl rfl ?_
      refine a_ishr (pc := 34) dX4_putWord_34 ?_
      refine a_i2b (pc := 35) dX4_putWord_35 ?_
      refine a_bast (pc := 36) (j := (tB t + 1)) dX4_putWord_36 rfl (lt90 hh1 (shK_lt (show shK 1 = _ from rfl))) rfl (by omega) ?_
      refine a_aload_n (pc := 37) (i := 0) dX4_putWord_37 rfl rfl ?_
      refine a_dup (pc := 38) dX4_putWord_38 rfl ?_
      refine a_getI (pc := 39) (ci := 4) (k := 1) dX4_putWord_39 (lf_RX4_13 rfl) (by decide) rfl rfl (lt90 hh1 (shK_lt (show shK 0 = _ from rfl))) ?_
      refine a_top (show (.int (hI (sI H1 1 (tB t + 1) ((x >>> ((nI 16) &&& 31)).toInt8.toInt32).toInt8.toInt32) 0 1) : Value) = .int (nI (tB t + 1)) from congrArg Value.int ((show _ = _ from by simp (disch := omega) only [rd1, rd2, rd3, rd4, rd5, rd6, rd7, hI_sL, hL_sI, hL_rI]).trans n1)) ?_
      refine a_iconst (pc := 42) (v := nI 1) dX4_putWord_42 (by decide) ?_
      refine n_iadd (pc := 43) dX4_putWord_43 ?_
      refine a_putI (pc := 44) (ci := 4) (k := 1) dX4_putWord_44 (lf_RX4_13 rfl) (by decide) (Or.inl rfl) rfl (lt90 hh1 (shK_lt (show shK 0 = _ from rfl))) rfl ?_
      obtain ⟨H2, hH2⟩ : ∃ Hx, Hx = sI (sI H1 1 (tB t + 1) ((x >>> ((nI 16) &&& 31)).toInt8.toInt32).toInt8.toInt32) 0 1 (nI ((tB t + 1) + 1)) := ⟨_, rfl⟩
      have f2 : Fr [0, 1] h H2 := by rw [hH2]; exact (f1.sI (by simp)).sI (by simp)
      have n2 : hI H2 0 1 = nI (tB t + 2) := by rw [hH2]; exact rd2 ⟨rfl, rfl⟩
      have z2 : ∀ j, j ≠ 1 → hI H2 0 j = hI h 0 j := fun j hj => by rw [hH2, rd1 (by omega)]; exact (rd1 (by omega)).trans (z1 j hj)
      have y2 : ∀ j, j < tB t + 2 → hI H2 1 j = if j < tB t then tY t j else byt x (j - tB t) := fun j hj => by
        rw [hH2, rd1 (by omega)]
        by_cases e : j = tB t + 1
        · rw [rd2 ⟨rfl, e⟩, if_neg (by omega), show j - tB t = 1 by omega, i8_2]; rfl
        · rw [rd1 (by omega)]; exact y1 j (by omega)
      refine a_heap (h' := H2) hH2.symm ?_
      refine a_iinc (pc := 47) (i := 2) (ls' := [(0, .ref 0), (1, .int x), (2, .int (nI 8))]) dX4_putWord_47 rfl (by decide) (by decide) rfl ?_
      refine a_goto (pc := 50) (tgt := 3) dX4_putWord_50 (by decide) ?_
      have cc2 := c.fr f2
      have hh2 := cc2.1
      refine a_iload_n (pc := 3) (i := 2) dX4_putWord_3 rfl rfl ?_
      refine n_if_lt (pc := 4) (tgt := 53) dX4_putWord_4 (by decide) (by omega) ?_
      refine a_aload_n (pc := 7) (i := 0) dX4_putWord_7 rfl rfl ?_
      refine a_getI (pc := 8) (ci := 4) (k := 1) dX4_putWord_8 (lf_RX4_13 rfl) (by decide) rfl rfl (lt90 hh2 (shK_lt (show shK 0 = _ from rfl))) ?_
      refine a_top (show (.int (hI H2 0 1) : Value) = .int (nI (tB t + 2)) from congrArg Value.int n2) ?_
      refine n_if_lt (pc := 11) (tgt := 47) dX4_putWord_11 (by decide) (by omega) ?_
      refine a_aload_n (pc := 14) (i := 0) dX4_putWord_14 rfl rfl ?_
      refine a_getI (pc := 15) (ci := 4) (k := 1) dX4_putWord_15 (lf_RX4_13 rfl) (by decide) rfl rfl (lt90 hh2 (shK_lt (show shK 0 = _ from rfl))) ?_
      refine a_top (show (.int (hI H2 0 1) : Value) = .int (nI (tB t + 2)) from congrArg Value.int n2) ?_
      refine a_sipush (pc := 18) (v := nI 400) dX4_putWord_18 (by decide) ?_
      refine n_icmp_ge (pc := 21) (tgt := 47) dX4_putWord_21 (by decide) (by omega) (by omega) (fun c21 => ?_) (fun c21 => ?_)
      · exact absurd c21 (by omega)
      · skip
        refine a_aload_n (pc := 24) (i := 0) dX4_putWord_24 rfl rfl ?_
        refine a_getR (pc := 25) (ci := 4) (k := 0) (b := 1) dX4_putWord_25 (lf_RX4_9 rfl) (by decide) rfl rfl (lt90 hh2 (shK_lt (show shK 0 = _ from rfl))) cc2.2.1.1 ?_
        refine a_aload_n (pc := 28) (i := 0) dX4_putWord_28 rfl rfl ?_
        refine a_getI (pc := 29) (ci := 4) (k := 1) dX4_putWord_29 (lf_RX4_13 rfl) (by decide) rfl rfl (lt90 hh2 (shK_lt (show shK 0 = _ from rfl))) ?_
        refine a_top (show (.int (hI H2 0 1) : Value) = .int (nI (tB t + 2)) from congrArg Value.int n2) ?_
        refine a_iload_n (pc := 32) (i := 1) dX4_putWord_32 rfl rfl ?_
        refine a_iload_n (pc := 33) (i := 2) dX4_putWord_33 rfl rfl ?_
        refine a_ishr (pc := 34) dX4_putWord_34 ?_
        refine a_i2b (pc := 35) dX4_putWord_35 ?_
        refine a_bast (pc := 36) (j := (tB t + 2)) dX4_putWord_36 rfl (lt90 hh2 (shK_lt (show shK 1 = _ from rfl))) rfl (by omega) ?_
        refine a_aload_n (pc := 37) (i := 0) dX4_putWord_37 rfl rfl ?_
        refine a_dup (pc := 38) dX4_putWord_38 rfl ?_
        refine a_getI (pc := 39) (ci := 4) (k := 1) dX4_putWord_39 (lf_RX4_13 rfl) (by decide) rfl rfl (lt90 hh2 (shK_lt (show shK 0 = _ from rfl))) ?_
        refine a_top (show (.int (hI (sI H2 1 (tB t + 2) ((x >>> ((nI 8) &&& 31)).toInt8.toInt32).toInt8.toInt32) 0 1) : Value) = .int (nI (tB t + 2)) from congrArg Value.int ((show _ = _ from by simp (disch := omega) only [rd1, rd2, rd3, rd4, rd5, rd6, rd7, hI_sL, hL_sI, hL_rI]).trans n2)) ?_
        refine a_iconst (pc := 42) (v := nI 1) dX4_putWord_42 (by decide) ?_
        refine n_iadd (pc := 43) dX4_putWord_43 ?_
        refine a_putI (pc := 44) (ci := 4) (k := 1) dX4_putWord_44 (lf_RX4_13 rfl) (by decide) (Or.inl rfl) rfl (lt90 hh2 (shK_lt (show shK 0 = _ from rfl))) rfl ?_
        obtain ⟨H3, hH3⟩ : ∃ Hx, Hx = sI (sI H2 1 (tB t + 2) ((x >>> ((nI 8) &&& 31)).toInt8.toInt32).toInt8.toInt32) 0 1 (nI ((tB t + 2) + 1)) := ⟨_, rfl⟩
        have f3 : Fr [0, 1] h H3 := by rw [hH3]; exact (f2.sI (by simp)).sI (by simp)
        have n3 : hI H3 0 1 = nI (tB t + 3) := by rw [hH3]; exact rd2 ⟨rfl, rfl⟩
        have z3 : ∀ j, j ≠ 1 → hI H3 0 j = hI h 0 j := fun j hj => by rw [hH3, rd1 (by omega)]; exact (rd1 (by omega)).trans (z2 j hj)
        have y3 : ∀ j, j < tB t + 3 → hI H3 1 j = if j < tB t then tY t j else byt x (j - tB t) := fun j hj => by
          rw [hH3, rd1 (by omega)]
          by_cases e : j = tB t + 2
          · rw [rd2 ⟨rfl, e⟩, if_neg (by omega), show j - tB t = 2 by omega, i8_2]; rfl
          · rw [rd1 (by omega)]; exact y2 j (by omega)
        refine a_heap (h' := H3) hH3.symm ?_
        refine a_iinc (pc := 47) (i := 2) (ls' := [(0, .ref 0), (1, .int x), (2, .int (nI 0))]) dX4_putWord_47 rfl (by decide) (by decide) rfl ?_
        refine a_goto (pc := 50) (tgt := 3) dX4_putWord_50 (by decide) ?_
        have cc3 := c.fr f3
        have hh3 := cc3.1
        refine a_iload_n (pc := 3) (i := 2) dX4_putWord_3 rfl rfl ?_
        refine n_if_lt (pc := 4) (tgt := 53) dX4_putWord_4 (by decide) (by omega) ?_
        refine a_aload_n (pc := 7) (i := 0) dX4_putWord_7 rfl rfl ?_
        refine a_getI (pc := 8) (ci := 4) (k := 1) dX4_putWord_8 (lf_RX4_13 rfl) (by decide) rfl rfl (lt90 hh3 (shK_lt (show shK 0 = _ from rfl))) ?_
        refine a_top (show (.int (hI H3 0 1) : Value) = .int (nI (tB t + 3)) from congrArg Value.int n3) ?_
        refine n_if_lt (pc := 11) (tgt := 47) dX4_putWord_11 (by decide) (by omega) ?_
        refine a_aload_n (pc := 14) (i := 0) dX4_putWord_14 rfl rfl ?_
        refine a_getI (pc := 15) (ci := 4) (k := 1) dX4_putWord_15 (lf_RX4_13 rfl) (by decide) rfl rfl (lt90 hh3 (shK_lt (show shK 0 = _ from rfl))) ?_
        refine a_top (show (.int (hI H3 0 1) : Value) = .int (nI (tB t + 3)) from congrArg Value.int n3) ?_
        refine a_sipush (pc := 18) (v := nI 400) dX4_putWord_18 (by decide) ?_
        refine n_icmp_ge (pc := 21) (tgt := 47) dX4_putWord_21 (by decide) (by omega) (by omega) (fun c21 => ?_) (fun c21 => ?_)
        · exact absurd c21 (by omega)
        · skip
          refine a_aload_n (pc := 24) (i := 0) dX4_putWord_24 rfl rfl ?_
          refine a_getR (pc := 25) (ci := 4) (k := 0) (b := 1) dX4_putWord_25 (lf_RX4_9 rfl) (by decide) rfl rfl (lt90 hh3 (shK_lt (show shK 0 = _ from rfl))) cc3.2.1.1 ?_
          refine a_aload_n (pc := 28) (i := 0) dX4_putWord_28 rfl rfl ?_
          refine a_getI (pc := 29) (ci := 4) (k := 1) dX4_putWord_29 (lf_RX4_13 rfl) (by decide) rfl rfl (lt90 hh3 (shK_lt (show shK 0 = _ from rfl))) ?_
          refine a_top (show (.int (hI H3 0 1) : Value) = .int (nI (tB t + 3)) from congrArg Value.int n3) ?_
          refine a_iload_n (pc := 32) (i := 1) dX4_putWord_32 rfl rfl ?_
          refine a_iload_n (pc := 33) (i := 2) dX4_putWord_33 rfl rfl ?_
          refine a_ishr (pc := 34) dX4_putWord_34 ?_
          refine a_i2b (pc := 35) dX4_putWord_35 ?_
          refine a_bast (pc := 36) (j := (tB t + 3)) dX4_putWord_36 rfl (lt90 hh3 (shK_lt (show shK 1 = _ from rfl))) rfl (by omega) ?_
          refine a_aload_n (pc := 37) (i := 0) dX4_putWord_37 rfl rfl ?_
          refine a_dup (pc := 38) dX4_putWord_38 rfl ?_
          refine a_getI (pc := 39) (ci := 4) (k := 1) dX4_putWord_39 (lf_RX4_13 rfl) (by decide) rfl rfl (lt90 hh3 (shK_lt (show shK 0 = _ from rfl))) ?_
          refine a_top (show (.int (hI (sI H3 1 (tB t + 3) ((x >>> ((nI 0) &&& 31)).toInt8.toInt32).toInt8.toInt32) 0 1) : Value) = .int (nI (tB t + 3)) from congrArg Value.int ((show _ = _ from by simp (disch := omega) only [rd1, rd2, rd3, rd4, rd5, rd6, rd7, hI_sL, hL_sI, hL_rI]).trans n3)) ?_
          refine a_iconst (pc := 42) (v := nI 1) dX4_putWord_42 (by decide) ?_
          refine n_iadd (pc := 43) dX4_putWord_43 ?_
          refine a_putI (pc := 44) (ci := 4) (k := 1) dX4_putWord_44 (lf_RX4_13 rfl) (by decide) (Or.inl rfl) rfl (lt90 hh3 (shK_lt (show shK 0 = _ from rfl))) rfl ?_
          obtain ⟨H4, hH4⟩ : ∃ Hx, Hx = sI (sI H3 1 (tB t + 3) ((x >>> ((nI 0) &&& 31)).toInt8.toInt32).toInt8.toInt32) 0 1 (nI ((tB t + 3) + 1)) := ⟨_, rfl⟩
          have f4 : Fr [0, 1] h H4 := by rw [hH4]; exact (f3.sI (by simp)).sI (by simp)
          have n4 : hI H4 0 1 = nI (tB t + 4) := by rw [hH4]; exact rd2 ⟨rfl, rfl⟩
          have z4 : ∀ j, j ≠ 1 → hI H4 0 j = hI h 0 j := fun j hj => by rw [hH4, rd1 (by omega)]; exact (rd1 (by omega)).trans (z3 j hj)
          have y4 : ∀ j, j < tB t + 4 → hI H4 1 j = if j < tB t then tY t j else byt x (j - tB t) := fun j hj => by
            rw [hH4, rd1 (by omega)]
            by_cases e : j = tB t + 3
            · rw [rd2 ⟨rfl, e⟩, if_neg (by omega), show j - tB t = 3 by omega, i8_2]; rfl
            · rw [rd1 (by omega)]; exact y3 j (by omega)
          refine a_heap (h' := H4) hH4.symm ?_
          refine a_iinc (pc := 47) (i := 2) (ls' := [(0, .ref 0), (1, .int x), (2, .int ((-8)))]) dX4_putWord_47 rfl (by decide) (by decide) rfl ?_
          refine a_goto (pc := 50) (tgt := 3) dX4_putWord_50 (by decide) ?_
          refine a_iload_n (pc := 3) (i := 2) dX4_putWord_3 rfl rfl ?_
          refine a_if_lt (pc := 4) (tgt := 53) dX4_putWord_4 (by decide) (fun c4 => ?_) (fun c4 => ?_)
          · skip
            exact a_return (pc := 53) dX4_putWord_53 rfl (⟨rfl, m.buf f4 z4 n4 (by omega) (fun j => by split; exact m0.2.1.2.2.1 j; exact ⟨_, rfl⟩) y4, f4.w (by simp)⟩)
          · exact absurd (by decide) c4
set_option maxHeartbeats 1500000 in
set_option maxRecDepth 100000 in
theorem sp_append {d : Nat} {h : AH} {t : ST} {w0 w1 w2 w3 w4 : Int32} (m : IM h t) : AC mX4_append (d + 100) 0 0 [.ref 0, .int w0, .int w1, .int w2, .int w3, .int w4] h (Qw (oApp t w0 w1 w2 w3 w4).1 (oApp t w0 w1 w2 w3 w4).2 h) := by
  have m0 := m.1
  have c := m0.1
  have g := m0.2.1.1
  have r := m0.2.2.1
  have hn := c.1
  have gl := g.2.2.2.2.2.1
  have gs := g.2.2.1
  have gw := g.1
  have gh := g.2.1
  refine AC.of (by decide) rfl (Nat.le_of_ble_eq_true rfl) (fun X => ?_)
  show AW X mX4_append (d + 100) 0 0 0 [(0, .ref 0), (1, .int w0), (2, .int w1), (3, .int w2), (4, .int w3), (5, .int w4)] [] h (Qw (oApp t w0 w1 w2 w3 w4).1 (oApp t w0 w1 w2 w3 w4).2 h)
  have hb4 := m0.2.1.2.1
  refine a_aload_n (pc := 0) (i := 0) dX4_append_0 rfl rfl ?_
  refine a_getI (pc := 1) (ci := 4) (k := 1) dX4_append_1 (lf_RX4_13 rfl) (by decide) rfl rfl (lt90 hn (shK_lt (show shK 0 = _ from rfl))) ?_
  refine a_top (show (.int (hI h 0 1) : Value) = .int (nI (tB t)) from congrArg Value.int m0.2.2.2.1.1) ?_
  refine a_bipush (pc := 4) (v := nI 20) dX4_append_4 (by decide) ?_
  refine n_iadd (pc := 6) dX4_append_6 ?_
  refine a_sipush (pc := 7) (v := nI 400) dX4_append_7 (by decide) ?_
  refine n_icmp_le (pc := 10) (tgt := 15) dX4_append_10 (by decide) (by omega) (by omega) (fun c10 => ?_) (fun c10 => ?_)
  · have e : oApp t w0 w1 w2 w3 w4 = _ := if_neg (by omega)
    refine a_aload_n (pc := 15) (i := 0) dX4_append_15 rfl rfl ?_
    refine a_iload_n (pc := 16) (i := 1) dX4_append_16 rfl rfl ?_
    refine a_uV (pc := 17) (as := [.int w0]) (b := 0) (ci := 4) dX4_append_17 (lc_RX4_59 rfl) ceX4_putWord rfl (lt90 hn (shK_lt (show shK 0 = _ from rfl))) (sp_putWord m (by show tB t + 0 + 4 ≤ 400; omega)) rfl rfl (Nat.le_of_ble_eq_true rfl) (fun h2 y => y.2.1) (fun H1 q1 => ?_)
    obtain ⟨m1, g1⟩ := q1
    have hn1 := m1.1.1.1
    refine a_aload_n (pc := 20) (i := 0) dX4_append_20 rfl rfl ?_
    refine a_iload_n (pc := 21) (i := 2) dX4_append_21 rfl rfl ?_
    refine a_uV (pc := 22) (as := [.int w1]) (b := 0) (ci := 4) dX4_append_22 (lc_RX4_59 rfl) ceX4_putWord rfl (lt90 hn1 (shK_lt (show shK 0 = _ from rfl))) (sp_putWord m1 (by show tB t + 4 + 4 ≤ 400; omega)) rfl rfl (Nat.le_of_ble_eq_true rfl) (fun h2 y => y.2.1) (fun H2 q2 => ?_)
    obtain ⟨m2, g2⟩ := q2
    have hn2 := m2.1.1.1
    refine a_aload_n (pc := 25) (i := 0) dX4_append_25 rfl rfl ?_
    refine a_iload_n (pc := 26) (i := 3) dX4_append_26 rfl rfl ?_
    refine a_uV (pc := 27) (as := [.int w2]) (b := 0) (ci := 4) dX4_append_27 (lc_RX4_59 rfl) ceX4_putWord rfl (lt90 hn2 (shK_lt (show shK 0 = _ from rfl))) (sp_putWord m2 (by show tB t + 8 + 4 ≤ 400; omega)) rfl rfl (Nat.le_of_ble_eq_true rfl) (fun h2 y => y.2.1) (fun H3 q3 => ?_)
    obtain ⟨m3, g3⟩ := q3
    have hn3 := m3.1.1.1
    refine a_aload_n (pc := 30) (i := 0) dX4_append_30 rfl rfl ?_
    refine a_iload (pc := 31) (i := 4) dX4_append_31 rfl ?_
    refine a_uV (pc := 33) (as := [.int w3]) (b := 0) (ci := 4) dX4_append_33 (lc_RX4_59 rfl) ceX4_putWord rfl (lt90 hn3 (shK_lt (show shK 0 = _ from rfl))) (sp_putWord m3 (by show tB t + 12 + 4 ≤ 400; omega)) rfl rfl (Nat.le_of_ble_eq_true rfl) (fun h2 y => y.2.1) (fun H4 q4 => ?_)
    obtain ⟨m4, g4⟩ := q4
    have hn4 := m4.1.1.1
    refine a_aload_n (pc := 36) (i := 0) dX4_append_36 rfl rfl ?_
    refine a_iload (pc := 37) (i := 5) dX4_append_37 rfl ?_
    refine a_uV (pc := 39) (as := [.int w4]) (b := 0) (ci := 4) dX4_append_39 (lc_RX4_59 rfl) ceX4_putWord rfl (lt90 hn4 (shK_lt (show shK 0 = _ from rfl))) (sp_putWord m4 (by show tB t + 16 + 4 ≤ 400; omega)) rfl rfl (Nat.le_of_ble_eq_true rfl) (fun h2 y => y.2.1) (fun H5 q5 => ?_)
    obtain ⟨m5, g5⟩ := q5
    have hn5 := m5.1.1.1
    refine a_aload_n (pc := 42) (i := 0) dX4_append_42 rfl rfl ?_
    refine a_getI (pc := 43) (ci := 4) (k := 1) dX4_append_43 (lf_RX4_13 rfl) (by decide) rfl rfl (lt90 hn5 (shK_lt (show shK 0 = _ from rfl))) ?_
    refine a_top (show (.int (hI H5 0 1) : Value) = .int (nI (tB t + 20)) from congrArg Value.int m5.1.2.2.2.1.1) ?_
    exact a_ireturn (pc := 46) dX4_append_46 rfl rfl (⟨by rw [e]; rfl, by rw [e]; exact m5, (((g1.trans g2).trans g3).trans g4).trans g5⟩)
  · have e : oApp t w0 w1 w2 w3 w4 = _ := if_pos (by omega)
    refine a_iconst (pc := 13) (v := (-1)) dX4_append_13 (by decide) ?_
    exact a_ireturn (pc := 14) dX4_append_14 rfl rfl (⟨by rw [e]; rfl, by rw [e]; exact m, Fw.refl⟩)
