/-! the class LetterCutsModel: append, least, mend, undo, snip -/
theorem MM.cur {S : List Nat} {h h2 : AH} {t : ST} {s : SH} (m : MM h t) (f : Fr S h h2) (hs : ∀ a, a ∈ S → a = 66 ∨ a = 68 ∨ a = 69 ∨ a = 70 ∨ 80 ≤ a) (e2 : hI h2 66 2 = hI h 66 2) (e7 : hI h2 66 7 = hI h 66 7) (e12 : hI h2 66 12 = hI h 66 12) (r : DM h2 68 s) (g : GS s) : MM h2 (s, t.2) := by
  obtain ⟨c, g0, r0, ⟨b1, b2⟩, a7, a12, p⟩ := m
  have hg := g0.2.2.2.1
  exact ⟨c.fr f, ⟨g, g0.2⟩, r, ⟨e2.trans b1, fun j hj => by rw [(f.2.2 67 (fun z => by have := hs _ z; omega)).1]; exact b2 j hj⟩, e7.trans a7, e12.trans a12, fun i hi => (p i hi).fr f (fun z => by have : i < tN t := hi; have := hs _ z; omega)⟩
theorem DM_eq {h : AH} {k : Nat} {s s2 : SH} (r : DM h k s) (h1 : s2.1 = s.1) (h2 : s2.2.1 = s.2.1) (h3 : s2.2.2.1 = s.2.2.1) (h4 : ∀ c, c < sCells s → (sGn s c ↔ sGn s2 c)) (h5 : s2.2.2.2.2 = s.2.2.2.2) : DM h k s2 := by
  obtain ⟨a1, a2, a3, a4, a5⟩ := s
  obtain ⟨b1, b2, b3, b4, b5⟩ := s2
  cases h1; cases h2; cases h3; cases h5
  exact ⟨r.1, r.2.1, r.2.2.1, fun c hc => (r.2.2.2.1 c hc).trans (bi_c (h4 c hc)), r.2.2.2.2⟩
theorem DM_least {h : AH} {s : SH} (g : GS s) (r : DM h 68 s) {n : Nat} : DM (sI h 68 2 (nI n)) 68 (withS s n) := by
  have gc := cells48 g
  obtain ⟨⟨r0, r1, r2, r3, r4, r5⟩, rl, rs, rg, rm⟩ := r
  exact ⟨⟨by rw [rd1 (by omega)]; exact r0, by rw [rd1 (by omega)]; exact r1, rd2 ⟨rfl, rfl⟩, by rw [rd1 (by omega)]; exact r3, by rw [rd1 (by omega)]; exact r4, by rw [rd1 (by omega)]; exact r5⟩, fun x p hx hp => by rw [rd1 (by omega)]; exact rl x p hx hp, fun x q hx hq => by rw [rd1 (by omega)]; exact rs x q hx hq, fun c hc => by rw [rd1 (by omega)]; exact rg c hc, fun j hj => by rw [rd1 (by omega)]; exact rm j hj⟩
theorem DM_md {h : AH} {s : SH} (g : GS s) (r : DM h 68 s) {n : Nat} (hn : n < sCells s) : DM (sI h 68 (114 + n) (nI 0)) 68 (mdS s n) := by
  have gc := cells48 g
  have gh := g.2.1
  obtain ⟨⟨r0, r1, r2, r3, r4, r5⟩, rl, rs, rg, rm⟩ := r
  refine ⟨⟨by rw [rd1 (by omega)]; exact r0, by rw [rd1 (by omega)]; exact r1, by rw [rd1 (by omega)]; exact r2, by rw [rd1 (by omega)]; exact r3, by rw [rd1 (by omega)]; exact r4, by rw [rd1 (by omega)]; exact r5⟩, fun x p hx hp => by have : p < sCells s := hp; rw [rd1 (by omega)]; exact rl x p hx hp, fun x q hx hq => by have : q < sH s := hq; rw [rd1 (by omega)]; exact rs x q hx hq, fun c hc => ?_, fun j hj => by rw [rd1 (by omega)]; exact rm j hj⟩
  show _ = bi (sGn s c ∧ c ≠ n)
  by_cases e : c = n
  · rw [rd2 ⟨rfl, by omega⟩, bi_f (fun z => z.2 e)]; rfl
  · rw [rd1 (by omega)]; exact (rg c hc).trans (bi_c ⟨fun z => ⟨z, e⟩, fun z => z.1⟩)
theorem cnt_pcl {s : SH} (g : GS s) {q : Nat} (hq : q < 96) : ∀ n, q % 8 + n ≤ sW s → cnt (pcl s q n) 64 = n
  | 0, _ => cnt_none _ fun i _ ⟨j, h1, _⟩ => absurd h1 (by omega)
  | n + 1, h => by
    have ih := cnt_pcl g hq n (by omega)
    have gw := g.1
    have hc : qcell s (q + n) < 64 := by unfold qcell; split <;> omega
    have h1 : pcl s q (n + 1) (qcell s (q + n)) := pcl_s.mpr (Or.inr rfl)
    rw [cnt_del h1 hc, cnt_congr (P := fun i => pcl s q (n + 1) i ∧ i ≠ qcell s (q + n)) (Q := pcl s q n) 64 (fun i _ => ?_), ih]
    constructor
    · rintro ⟨a, b⟩
      exact (pcl_s.mp a).elim id (fun z => absurd z b)
    · intro a
      refine ⟨pcl_s.mpr (Or.inl a), fun e => ?_⟩
      obtain ⟨j, b1, b2⟩ := a
      have := qcell_in g (i := j) (j := n) hq (by omega) (by omega) (b2.symm.trans e)
      omega
theorem MM.of0 {h h2 : AH} {t : ST} (m : MM h t) (f : Fr [66] h h2) (e : ∀ j, j ≠ 0 → hI h2 66 j = hI h 66 j) : MM h2 t := m.scr f (by simp) (e 2 (by omega)) (e 7 (by omega)) (e 12 (by omega))
set_option maxHeartbeats 1500000 in
set_option maxRecDepth 100000 in
theorem s5_least {d : Nat} {h : AH} {t : ST} {x : Int32} (m : MM h t) : AC mX5_least (d + 300) 0 0 [.ref 66, .int x] h (Qm [eIA] (oLeast t x).1 (oLeast t x).2 h) := by
  have c := m.1
  have g := m.2.1.1
  have r := m.2.2.1
  have hn := c.1
  have gw := g.1
  have gh := g.2.1
  have gl := g.2.2.2.2.2.1
  have gc := cells48 g
  refine AC.of (by decide) rfl (Nat.le_of_ble_eq_true rfl) (fun X => ?_)
  show AW X mX5_least (d + 300) 0 0 0 [(0, .ref 66), (1, .int x)] [] h (Qm [eIA] (oLeast t x).1 (oLeast t x).2 h)
  refine a_aload_n (pc := 0) (i := 0) dX5_least_0 rfl rfl ?_
  refine a_iconst (pc := 1) (v := nI 0) dX5_least_1 (by decide) ?_
  refine a_putI (pc := 2) (ci := 5) (k := 0) dX5_least_2 (lf_RX5_64 rfl) (by decide) (Or.inl rfl) rfl (lt90 hn (shK_lt (show shK 66 = _ from rfl))) rfl ?_
  obtain ⟨H0, hH0⟩ : ∃ Hx, Hx = sI h 66 0 (nI 0) := ⟨_, rfl⟩
  have f0 : Fr [66] h H0 := by rw [hH0]; exact Fr.refl.sI (by simp)
  have k0 : ∀ j, j ≠ 0 → hI H0 66 j = hI h 66 j := fun j hj => by rw [hH0]; exact rd1 (by omega)
  have t0 : hI H0 66 0 = nI 0 := by rw [hH0]; exact rd2 ⟨rfl, rfl⟩
  refine a_heap (h' := H0) hH0.symm ?_
  have m0 : MM H0 t := m.scr f0 (by simp) (k0 2 (by omega)) (k0 7 (by omega)) (k0 12 (by omega))
  have c0 := m0.1
  have r0 := m0.2.2.1
  have hn0 := c0.1
  refine a_aload_n (pc := 5) (i := 0) dX5_least_5 rfl rfl ?_
  refine a_iload_n (pc := 6) (i := 1) dX5_least_6 rfl rfl ?_
  refine a_iconst (pc := 7) (v := nI 1) dX5_least_7 (by decide) ?_
  refine a_bipush (pc := 8) (v := nI 9) dX5_least_8 (by decide) ?_
  refine a_vS1 (pc := 10) (as := [.int x, .int (nI 1), .int (nI 9)]) (v := .int (bi (inB x (nI 1) (nI 9)))) (h' := H0) dX5_least_10 (lc_RX5_86 rfl) ceX5_in s5_in rfl rfl (Nat.le_of_ble_eq_true rfl) rfl ?_
  refine b_if_ne (pc := 13) (tgt := 20) dX5_least_13 (by decide) (fun c13 => ?_) (fun c13 => ?_)
  · obtain ⟨k, hk, rfl⟩ := (inB_n (by omega) (by omega)).mp c13
    have e : oLeast t (nI k) = (.inl (some (.int (nI (sS (tC t))))), (withS (tC t) k, (tRem t).2)) := by
      refine (cif_t ⟨k, hk, rfl⟩).trans ?_
      rw [i2n_nI (by omega)]; rfl
    refine a_iconst (pc := 20) (v := nI 0) dX5_least_20 (by decide) ?_
    refine a_iconst (pc := 21) (v := nI 1) dX5_least_21 (by decide) ?_
    refine a_vV1 (pc := 22) (as := [.int (nI 0), .int (nI 1)]) (b := 66) (ci := 5) (v := .int (nI 0)) (h' := H0) dX5_least_22 (lc_RX5_156 rfl) ceX5_fails rfl (lt90 hn0 (shK_lt (show shK 66 = _ from rfl))) (s5_fails0 c0 t0) rfl rfl (Nat.le_of_ble_eq_true rfl) rfl ?_
    refine n_if_eq (pc := 25) (tgt := 30) dX5_least_25 (by decide) (by omega) (fun cz => ?_) (fun cz => ?_)
    · skip
      refine a_aload_n (pc := 30) (i := 0) dX5_least_30 rfl rfl ?_
      refine a_uV (pc := 31) (as := []) (b := 66) (ci := 5) dX5_least_31 (lc_RX5_165 rfl) ceX5_remember rfl (lt90 hn0 (shK_lt (show shK 66 = _ from rfl))) (s5_remember (d := d + 298) m0) rfl rfl (Nat.le_of_ble_eq_true rfl) (fun h2 y => y.2.1.1) (fun H1 y => ?_)
      obtain ⟨m1, f1, k1⟩ := y
      have c1 := m1.1
      have r1 := m1.2.2.1
      rw [tRem_c] at r1
      have hn1 := c1.1
      have t1 : hI H1 66 0 = nI 0 := (k1 0 (by omega)).trans t0
      have w1 : Fm H0 H1 := f1.fm' (by intro a ha; simp at ha; omega)
      refine a_aload_n (pc := 34) (i := 0) dX5_least_34 rfl rfl ?_
      refine a_getR (pc := 35) (ci := 5) (k := 8) (b := 68) dX5_least_35 (lf_RX5_17 rfl) (by decide) rfl rfl (lt90 hn1 (shK_lt (show shK 66 = _ from rfl))) c1.2.2.2.2.2.2.2.2.1.2.1 ?_
      refine a_iconst (pc := 38) (v := nI 2) dX5_least_38 (by decide) ?_
      refine a_iald (pc := 39) (j := 2) dX5_least_39 rfl (lt90 hn1 (shK_lt (show shK 68 = _ from rfl))) rfl (by omega) ?_
      refine a_top (show (.int (hI H1 68 2) : Value) = .int (nI (sS (tC t))) from congrArg Value.int r1.1.2.2.1) ?_
      refine a_istore_n (pc := 40) (i := 2) (ls' := [(0, .ref 66), (1, .int (nI k)), (2, .int (nI (sS (tC t))))]) dX5_least_40 rfl (by decide) rfl ?_
      refine a_aload_n (pc := 41) (i := 0) dX5_least_41 rfl rfl ?_
      refine a_getR (pc := 42) (ci := 5) (k := 8) (b := 68) dX5_least_42 (lf_RX5_17 rfl) (by decide) rfl rfl (lt90 hn1 (shK_lt (show shK 66 = _ from rfl))) c1.2.2.2.2.2.2.2.2.1.2.1 ?_
      refine a_iconst (pc := 45) (v := nI 2) dX5_least_45 (by decide) ?_
      refine a_iload_n (pc := 46) (i := 1) dX5_least_46 rfl rfl ?_
      refine a_iast (pc := 47) (j := 2) dX5_least_47 rfl (lt90 hn1 (shK_lt (show shK 68 = _ from rfl))) rfl (by omega) ?_
      refine a_iload_n (pc := 48) (i := 2) dX5_least_48 rfl rfl ?_
      exact a_ireturn (pc := 49) dX5_least_49 rfl rfl (⟨_, rfl, (fun w hw => by rw [e] at hw; cases hw; rfl), by rw [e]; exact (rd1 (by omega)).trans t1, by rw [e]; exact m1.cur (S := [68]) (Fr.refl.sI (by simp)) (by simp) (rd1 (by omega)) (rd1 (by omega)) (rd1 (by omega)) (DM_least g r1) (GS_withS g hk), (f0.fm.trans w1).trans ((Fr.refl (S := [68])).sI (by simp) |>.fm' (by simp))⟩)
    · exact absurd cz (by omega)
  · have e : oLeast t x = (.inr eIA, t) := cif_f (fun ⟨n, h1, h2⟩ => c13 ((inB_n (by omega) (by omega)).mpr ⟨n, h1, h2⟩))
    refine a_iconst (pc := 16) (v := nI 1) dX5_least_16 (by decide) ?_
    refine a_goto (pc := 17) (tgt := 21) dX5_least_17 (by decide) ?_
    refine a_iconst (pc := 21) (v := nI 1) dX5_least_21 (by decide) ?_
    refine a_vV1 (pc := 22) (as := [.int (nI 1), .int (nI 1)]) (b := 66) (ci := 5) (v := .int (nI 1)) (h' := (sI H0 66 0 (nI 1))) dX5_least_22 (lc_RX5_156 rfl) ceX5_fails rfl (lt90 hn0 (shK_lt (show shK 66 = _ from rfl))) (s5_fails1 c0 t0 (by omega)) rfl rfl (Nat.le_of_ble_eq_true rfl) rfl ?_
    refine n_if_eq (pc := 25) (tgt := 30) dX5_least_25 (by decide) (by omega) (fun cz => ?_) (fun cz => ?_)
    · exact absurd cz (by omega)
    · skip
      refine a_iconst (pc := 28) (v := nI 0) dX5_least_28 (by decide) ?_
      exact a_ireturn (pc := 29) dX5_least_29 rfl rfl (⟨_, rfl, (fun w hw => by rw [e] at hw; cases hw), by rw [e, show kn [eIA] (.inr eIA) = 1 from by decide +kernel]; exact rd2 ⟨rfl, rfl⟩, by rw [e]; exact m0.scr (S := [66]) (Fr.refl.sI (by simp)) (by simp) (rd1 (by omega)) (rd1 (by omega)) (rd1 (by omega)), f0.fm.trans (Fr.fm (Fr.refl.sI (by simp)))⟩)
set_option maxHeartbeats 1500000 in
set_option maxRecDepth 100000 in
theorem s5_undo {d : Nat} {h : AH} {t : ST} (m : MM h t) : AC mX5_undo (d + 300) 0 0 [.ref 66] h (fun r h2 => ∃ u : Int32, r = .inl (some (.int u)) ∧ (oUndo t).1 = .inl (some (.int u)) ∧ MM h2 (oUndo t).2 ∧ Fm h h2) := by
  have c := m.1
  have g := m.2.1.1
  have r := m.2.2.1
  have hn := c.1
  have gw := g.1
  have gh := g.2.1
  have gl := g.2.2.2.2.2.1
  have gc := cells48 g
  refine AC.of (by decide) rfl (Nat.le_of_ble_eq_true rfl) (fun X => ?_)
  show AW X mX5_undo (d + 300) 0 0 0 [(0, .ref 66)] [] h (fun r h2 => ∃ u : Int32, r = .inl (some (.int u)) ∧ (oUndo t).1 = .inl (some (.int u)) ∧ MM h2 (oUndo t).2 ∧ Fm h h2)
  refine a_aload_n (pc := 0) (i := 0) dX5_undo_0 rfl rfl ?_
  refine a_iconst (pc := 1) (v := nI 0) dX5_undo_1 (by decide) ?_
  refine a_putI (pc := 2) (ci := 5) (k := 0) dX5_undo_2 (lf_RX5_64 rfl) (by decide) (Or.inl rfl) rfl (lt90 hn (shK_lt (show shK 66 = _ from rfl))) rfl ?_
  obtain ⟨H0, hH0⟩ : ∃ Hx, Hx = sI h 66 0 (nI 0) := ⟨_, rfl⟩
  have f0 : Fr [66] h H0 := by rw [hH0]; exact Fr.refl.sI (by simp)
  have k0 : ∀ j, j ≠ 0 → hI H0 66 j = hI h 66 j := fun j hj => by rw [hH0]; exact rd1 (by omega)
  have t0 : hI H0 66 0 = nI 0 := by rw [hH0]; exact rd2 ⟨rfl, rfl⟩
  refine a_heap (h' := H0) hH0.symm ?_
  have m0 : MM H0 t := m.scr f0 (by simp) (k0 2 (by omega)) (k0 7 (by omega)) (k0 12 (by omega))
  have c0 := m0.1
  have r0 := m0.2.2.1
  have hn0 := c0.1
  have a12 := m0.2.2.2.2.2.1
  have g8 := m0.2.1.2.2.2.1
  refine a_aload_n (pc := 5) (i := 0) dX5_undo_5 rfl rfl ?_
  refine a_getI (pc := 6) (ci := 5) (k := 12) dX5_undo_6 (lf_RX5_302 rfl) (by decide) rfl rfl (lt90 hn0 (shK_lt (show shK 66 = _ from rfl))) ?_
  refine a_top (show (.int (hI H0 66 12) : Value) = .int (nI (tN t)) from congrArg Value.int a12) ?_
  refine n_if_ne (pc := 9) (tgt := 14) dX5_undo_9 (by decide) (by omega) (fun c9 => ?_) (fun c9 => ?_)
  · have e : oUndo t = _ := cif_f (by omega)
    refine a_aload_n (pc := 14) (i := 0) dX5_undo_14 rfl rfl ?_
    refine a_dup (pc := 15) dX5_undo_15 rfl ?_
    refine a_getI (pc := 16) (ci := 5) (k := 12) dX5_undo_16 (lf_RX5_302 rfl) (by decide) rfl rfl (lt90 hn0 (shK_lt (show shK 66 = _ from rfl))) ?_
    refine a_top (show (.int (hI H0 66 12) : Value) = .int (nI (tN t)) from congrArg Value.int a12) ?_
    refine a_iconst (pc := 19) (v := nI 1) dX5_undo_19 (by decide) ?_
    refine n_isub (pc := 20) dX5_undo_20 (by omega) ?_
    refine a_putI (pc := 21) (ci := 5) (k := 12) dX5_undo_21 (lf_RX5_302 rfl) (by decide) (Or.inl rfl) rfl (lt90 hn0 (shK_lt (show shK 66 = _ from rfl))) rfl ?_
    obtain ⟨H1, hH1⟩ : ∃ Hx, Hx = sI H0 66 12 (nI ((tN t) - 1)) := ⟨_, rfl⟩
    have f1 : Fr [66] H0 H1 := by rw [hH1]; exact Fr.refl.sI (by simp)
    have e1 : hI H1 66 12 = nI (tN t - 1) := by rw [hH1]; exact rd2 ⟨rfl, rfl⟩
    have k1 : ∀ j, j ≠ 12 → hI H1 66 j = hI H0 66 j := fun j hj => by rw [hH1]; exact rd1 (by omega)
    refine a_heap (h' := H1) hH1.symm ?_
    have c1 := c0.fr f1
    have hn1 := c1.1
    refine a_aload_n (pc := 24) (i := 0) dX5_undo_24 rfl rfl ?_
    refine a_getR (pc := 25) (ci := 5) (k := 11) (b := 71) dX5_undo_25 (lf_RX5_28 rfl) (by decide) rfl rfl (lt90 hn1 (shK_lt (show shK 66 = _ from rfl))) c1.2.2.2.2.2.2.2.2.1.2.2.2.2.1 ?_
    refine a_aload_n (pc := 28) (i := 0) dX5_undo_28 rfl rfl ?_
    refine a_getI (pc := 29) (ci := 5) (k := 12) dX5_undo_29 (lf_RX5_302 rfl) (by decide) rfl rfl (lt90 hn1 (shK_lt (show shK 66 = _ from rfl))) ?_
    refine a_top (show (.int (hI H1 66 12) : Value) = .int (nI (tN t - 1)) from congrArg Value.int e1) ?_
    refine a_rald (pc := 32) (j := (tN t - 1)) (b := (72 + (tN t - 1))) dX5_undo_32 rfl (lt90 hn1 (shK_lt (show shK 71 = _ from rfl))) rfl (by omega) (c1.h8 (by omega)) ?_
    refine a_aload_n (pc := 33) (i := 0) dX5_undo_33 rfl rfl ?_
    refine a_getR (pc := 34) (ci := 5) (k := 8) (b := 68) dX5_undo_34 (lf_RX5_17 rfl) (by decide) rfl rfl (lt90 hn1 (shK_lt (show shK 66 = _ from rfl))) c1.2.2.2.2.2.2.2.2.1.2.1 ?_
    refine a_wS0 (pc := 37) (as := [.ref (72 + (tN t - 1)), .ref 68]) dX5_undo_37 (lc_RX5_168 rfl) ceX5_copy (s5_copy hn1 (is186_h (by omega)) rfl (by omega)) rfl rfl (Nat.le_of_ble_eq_true rfl) (fun H2 f2 r2 => ?_)
    have e66 : hI H2 66 = hI H1 66 := (f2.2.2 66 (by simp)).1
    refine a_aload_n (pc := 40) (i := 0) dX5_undo_40 rfl rfl ?_
    refine a_getI (pc := 41) (ci := 5) (k := 12) dX5_undo_41 (lf_RX5_302 rfl) (by decide) rfl rfl (lt90 (f2.1.trans hn1) (shK_lt (show shK 66 = _ from rfl))) ?_
    refine a_top (show (.int (hI H2 66 12) : Value) = .int (nI (tN t - 1)) from congrArg Value.int (by rw [e66]; exact e1 : hI H2 66 12 = nI (tN t - 1))) ?_
    obtain ⟨-, gt, -, ⟨b1, b2⟩, a7, -, pp⟩ := m0
    exact a_ireturn (pc := 44) dX5_undo_44 rfl rfl (⟨_, rfl, by rw [e]; rfl, by
      rw [e]
      exact ⟨c1.fr f2, ⟨gt.2.2.2.2 _, gt.2.1, gt.2.2.1, by show tN t - 1 ≤ 8; omega, gt.2.2.2.2⟩, DM_cp (gt.2.2.2.2 _) ((pp (tN t - 1) (by omega)).fr f1 (by simp; omega)) r2, ⟨by rw [e66, k1 2 (by omega)]; exact b1, fun j hj => by rw [(f2.2.2 67 (by simp)).1, (f1.2.2 67 (by simp)).1]; exact b2 j hj⟩, by rw [e66, k1 7 (by omega)]; exact a7, by rw [e66]; exact e1, fun i hi => by have hi : i < tN t - 1 := hi; exact ((pp i (by omega)).fr f1 (by simp; omega)).fr f2 (by simp; omega)⟩, (f0.fm.trans f1.fm).trans (f2.fm' (by simp))⟩)
  · have e : oUndo t = _ := cif_t c9
    refine a_iconst (pc := 12) (v := (-1)) dX5_undo_12 (by decide) ?_
    exact a_ireturn (pc := 13) dX5_undo_13 rfl rfl (⟨_, rfl, by rw [e]; rfl, by rw [e]; exact m0, f0.fm⟩)
set_option maxHeartbeats 1500000 in
set_option maxRecDepth 100000 in
theorem s5_mend {d : Nat} {h : AH} {t : ST} {x : Int32} (m : MM h t) : AC mX5_mend (d + 300) 0 0 [.ref 66, .int x] h (Qm [eIO, eIS] (oMend t x).1 (oMend t x).2 h) := by
  have c := m.1
  have g := m.2.1.1
  have r := m.2.2.1
  have hn := c.1
  have gw := g.1
  have gh := g.2.1
  have gl := g.2.2.2.2.2.1
  have gc := cells48 g
  refine AC.of (by decide) rfl (Nat.le_of_ble_eq_true rfl) (fun X => ?_)
  show AW X mX5_mend (d + 300) 0 0 0 [(0, .ref 66), (1, .int x)] [] h (Qm [eIO, eIS] (oMend t x).1 (oMend t x).2 h)
  refine a_aload_n (pc := 0) (i := 0) dX5_mend_0 rfl rfl ?_
  refine a_iconst (pc := 1) (v := nI 0) dX5_mend_1 (by decide) ?_
  refine a_putI (pc := 2) (ci := 5) (k := 0) dX5_mend_2 (lf_RX5_64 rfl) (by decide) (Or.inl rfl) rfl (lt90 hn (shK_lt (show shK 66 = _ from rfl))) rfl ?_
  obtain ⟨H0, hH0⟩ : ∃ Hx, Hx = sI h 66 0 (nI 0) := ⟨_, rfl⟩
  have f0 : Fr [66] h H0 := by rw [hH0]; exact Fr.refl.sI (by simp)
  have k0 : ∀ j, j ≠ 0 → hI H0 66 j = hI h 66 j := fun j hj => by rw [hH0]; exact rd1 (by omega)
  have t0 : hI H0 66 0 = nI 0 := by rw [hH0]; exact rd2 ⟨rfl, rfl⟩
  refine a_heap (h' := H0) hH0.symm ?_
  have m0 : MM H0 t := m.scr f0 (by simp) (k0 2 (by omega)) (k0 7 (by omega)) (k0 12 (by omega))
  have c0 := m0.1
  have r0 := m0.2.2.1
  have hn0 := c0.1
  refine a_aload_n (pc := 5) (i := 0) dX5_mend_5 rfl rfl ?_
  refine a_iload_n (pc := 6) (i := 1) dX5_mend_6 rfl rfl ?_
  refine a_iconst (pc := 7) (v := nI 0) dX5_mend_7 (by decide) ?_
  refine a_aload_n (pc := 8) (i := 0) dX5_mend_8 rfl rfl ?_
  refine a_vV1 (pc := 9) (as := []) (b := 66) (ci := 5) (v := .int (nI (sCells (tC t)))) (h' := H0) dX5_mend_9 (lc_RX5_172 rfl) ceX5_cells rfl (lt90 hn0 (shK_lt (show shK 66 = _ from rfl))) (s5_cells c0 g r0) rfl rfl (Nat.le_of_ble_eq_true rfl) rfl ?_
  refine a_iconst (pc := 12) (v := nI 1) dX5_mend_12 (by decide) ?_
  refine n_isub (pc := 13) dX5_mend_13 (by omega) ?_
  refine a_vS1 (pc := 14) (as := [.int x, .int (nI 0), .int (nI ((sCells (tC t)) - 1))]) (v := .int (bi (inB x (nI 0) (nI (sCells (tC t) - 1))))) (h' := H0) dX5_mend_14 (lc_RX5_86 rfl) ceX5_in s5_in rfl rfl (Nat.le_of_ble_eq_true rfl) rfl ?_
  refine b_if_ne (pc := 17) (tgt := 24) dX5_mend_17 (by decide) (fun c17 => ?_) (fun c17 => ?_)
  · obtain ⟨k, hk, rfl⟩ := (inB_c gc.1 (by omega)).mp c17
    have e1 : oMend t (nI k) = _ := cif_t ⟨k, hk, rfl⟩
    rw [i2n_nI (by omega)] at e1
    refine a_iconst (pc := 24) (v := nI 0) dX5_mend_24 (by decide) ?_
    refine a_iconst (pc := 25) (v := nI 1) dX5_mend_25 (by decide) ?_
    refine a_vV1 (pc := 26) (as := [.int (nI 0), .int (nI 1)]) (b := 66) (ci := 5) (v := .int (nI 0)) (h' := H0) dX5_mend_26 (lc_RX5_156 rfl) ceX5_fails rfl (lt90 hn0 (shK_lt (show shK 66 = _ from rfl))) (s5_fails0 c0 t0) rfl rfl (Nat.le_of_ble_eq_true rfl) rfl ?_
    refine n_if_ne (pc := 29) (tgt := 57) dX5_mend_29 (by decide) (by omega) (fun cz => ?_) (fun cz => ?_)
    · exact absurd cz (by omega)
    · skip
      refine a_aload_n (pc := 32) (i := 0) dX5_mend_32 rfl rfl ?_
      refine a_aload_n (pc := 33) (i := 0) dX5_mend_33 rfl rfl ?_
      refine a_getR (pc := 34) (ci := 5) (k := 8) (b := 68) dX5_mend_34 (lf_RX5_17 rfl) (by decide) rfl rfl (lt90 hn0 (shK_lt (show shK 66 = _ from rfl))) c0.2.2.2.2.2.2.2.2.1.2.1 ?_
      refine a_bipush (pc := 37) (v := nI 114) dX5_mend_37 (by decide) ?_
      refine a_iload_n (pc := 39) (i := 1) dX5_mend_39 rfl rfl ?_
      refine n_iadd (pc := 40) dX5_mend_40 ?_
      refine a_iald (pc := 41) (j := (114 + k)) dX5_mend_41 rfl (lt90 hn0 (shK_lt (show shK 68 = _ from rfl))) rfl (by omega) ?_
      refine a_top (show (.int (hI H0 68 (114 + k)) : Value) = .int (bi (sGn (tC t) k)) from congrArg Value.int (r0.2.2.2.1 k hk)) ?_
      refine b_if_ne (pc := 42) (tgt := 49) dX5_mend_42 (by decide) (fun c42 => ?_) (fun c42 => ?_)
      · have e := e1.trans (cif_t c42)
        refine a_iconst (pc := 49) (v := nI 0) dX5_mend_49 (by decide) ?_
        refine a_iconst (pc := 50) (v := nI 2) dX5_mend_50 (by decide) ?_
        refine a_vV1 (pc := 51) (as := [.int (nI 0), .int (nI 2)]) (b := 66) (ci := 5) (v := .int (nI 0)) (h' := H0) dX5_mend_51 (lc_RX5_156 rfl) ceX5_fails rfl (lt90 hn0 (shK_lt (show shK 66 = _ from rfl))) (s5_fails0 c0 t0) rfl rfl (Nat.le_of_ble_eq_true rfl) rfl ?_
        refine n_if_eq (pc := 54) (tgt := 59) dX5_mend_54 (by decide) (by omega) (fun cz => ?_) (fun cz => ?_)
        · skip
          refine a_aload_n (pc := 59) (i := 0) dX5_mend_59 rfl rfl ?_
          refine a_uV (pc := 60) (as := []) (b := 66) (ci := 5) dX5_mend_60 (lc_RX5_165 rfl) ceX5_remember rfl (lt90 hn0 (shK_lt (show shK 66 = _ from rfl))) (s5_remember (d := d + 298) m0) rfl rfl (Nat.le_of_ble_eq_true rfl) (fun h2 y => y.2.1.1) (fun H1 y => ?_)
          obtain ⟨m1, f1, k1⟩ := y
          have c1 := m1.1
          have r1 := m1.2.2.1
          rw [tRem_c] at r1
          have hn1 := c1.1
          have t1 : hI H1 66 0 = nI 0 := (k1 0 (by omega)).trans t0
          have w1 : Fm H0 H1 := f1.fm' (by intro a ha; simp at ha; omega)
          refine a_aload_n (pc := 63) (i := 0) dX5_mend_63 rfl rfl ?_
          refine a_getR (pc := 64) (ci := 5) (k := 8) (b := 68) dX5_mend_64 (lf_RX5_17 rfl) (by decide) rfl rfl (lt90 hn1 (shK_lt (show shK 66 = _ from rfl))) c1.2.2.2.2.2.2.2.2.1.2.1 ?_
          refine a_bipush (pc := 67) (v := nI 114) dX5_mend_67 (by decide) ?_
          refine a_iload_n (pc := 69) (i := 1) dX5_mend_69 rfl rfl ?_
          refine n_iadd (pc := 70) dX5_mend_70 ?_
          refine a_iconst (pc := 71) (v := nI 0) dX5_mend_71 (by decide) ?_
          refine a_iast (pc := 72) (j := (114 + k)) dX5_mend_72 rfl (lt90 hn1 (shK_lt (show shK 68 = _ from rfl))) rfl (by omega) ?_
          obtain ⟨H2, hH2⟩ : ∃ Hx, Hx = sI H1 68 (114 + k) (nI 0) := ⟨_, rfl⟩
          have f2 : Fr [68] H1 H2 := by rw [hH2]; exact Fr.refl.sI (by simp)
          have r2 : DM H2 68 (mdS (tC t) k) := by rw [hH2]; exact DM_md g r1 hk
          refine a_heap (h' := H2) hH2.symm ?_
          have c2 := c1.fr f2
          have hn2 := c2.1
          have e66 : hI H2 66 = hI H1 66 := (f2.2.2 66 (by simp)).1
          refine a_aload_n (pc := 73) (i := 0) dX5_mend_73 rfl rfl ?_
          refine a_vV1 (pc := 74) (as := []) (b := 66) (ci := 5) (v := .int (nI (nThere (mdS (tC t) k)))) (h' := H2) dX5_mend_74 (lc_RX5_257 rfl) ceX5_cellsThere rfl (lt90 hn2 (shK_lt (show shK 66 = _ from rfl))) (s5_cellsThere (d := d + 298) c2 (GS_md g) r2) rfl rfl (Nat.le_of_ble_eq_true rfl) rfl ?_
          exact a_ireturn (pc := 77) dX5_mend_77 rfl rfl (⟨_, rfl, (fun w hw => by rw [e] at hw; cases hw; rfl), by rw [e]; exact (by rw [e66]; exact t1), by rw [e]; exact m1.cur f2 (by simp) (by rw [e66]) (by rw [e66]) (by rw [e66]) r2 (GS_md g), (f0.fm.trans w1).trans (f2.fm' (by simp))⟩)
        · exact absurd cz (by omega)
      · have e := e1.trans (cif_f c42)
        refine a_iconst (pc := 45) (v := nI 1) dX5_mend_45 (by decide) ?_
        refine a_goto (pc := 46) (tgt := 50) dX5_mend_46 (by decide) ?_
        refine a_iconst (pc := 50) (v := nI 2) dX5_mend_50 (by decide) ?_
        refine a_vV1 (pc := 51) (as := [.int (nI 1), .int (nI 2)]) (b := 66) (ci := 5) (v := .int (nI 1)) (h' := (sI H0 66 0 (nI 2))) dX5_mend_51 (lc_RX5_156 rfl) ceX5_fails rfl (lt90 hn0 (shK_lt (show shK 66 = _ from rfl))) (s5_fails1 c0 t0 (by omega)) rfl rfl (Nat.le_of_ble_eq_true rfl) rfl ?_
        refine n_if_eq (pc := 54) (tgt := 59) dX5_mend_54 (by decide) (by omega) (fun cz => ?_) (fun cz => ?_)
        · exact absurd cz (by omega)
        · skip
          refine a_iconst (pc := 57) (v := nI 0) dX5_mend_57 (by decide) ?_
          exact a_ireturn (pc := 58) dX5_mend_58 rfl rfl (⟨_, rfl, (fun w hw => by rw [e] at hw; cases hw), by rw [e, show kn [eIO, eIS] (.inr eIS) = 2 from by decide +kernel]; exact rd2 ⟨rfl, rfl⟩, by rw [e]; exact m0.scr (S := [66]) (Fr.refl.sI (by simp)) (by simp) (rd1 (by omega)) (rd1 (by omega)) (rd1 (by omega)), f0.fm.trans (Fr.fm (Fr.refl.sI (by simp)))⟩)
  · have e : oMend t x = (.inr eIO, t) := cif_f (fun z => c17 ((inB_c gc.1 (by omega)).mpr z))
    refine a_iconst (pc := 20) (v := nI 1) dX5_mend_20 (by decide) ?_
    refine a_goto (pc := 21) (tgt := 25) dX5_mend_21 (by decide) ?_
    refine a_iconst (pc := 25) (v := nI 1) dX5_mend_25 (by decide) ?_
    refine a_vV1 (pc := 26) (as := [.int (nI 1), .int (nI 1)]) (b := 66) (ci := 5) (v := .int (nI 1)) (h' := (sI H0 66 0 (nI 1))) dX5_mend_26 (lc_RX5_156 rfl) ceX5_fails rfl (lt90 hn0 (shK_lt (show shK 66 = _ from rfl))) (s5_fails1 c0 t0 (by omega)) rfl rfl (Nat.le_of_ble_eq_true rfl) rfl ?_
    refine n_if_ne (pc := 29) (tgt := 57) dX5_mend_29 (by decide) (by omega) (fun cz => ?_) (fun cz => ?_)
    · skip
      refine a_iconst (pc := 57) (v := nI 0) dX5_mend_57 (by decide) ?_
      exact a_ireturn (pc := 58) dX5_mend_58 rfl rfl (⟨_, rfl, (fun w hw => by rw [e] at hw; cases hw), by rw [e, show kn [eIO, eIS] (.inr eIO) = 1 from by decide +kernel]; exact rd2 ⟨rfl, rfl⟩, by rw [e]; exact m0.scr (S := [66]) (Fr.refl.sI (by simp)) (by simp) (rd1 (by omega)) (rd1 (by omega)) (rd1 (by omega)), f0.fm.trans (Fr.fm (Fr.refl.sI (by simp)))⟩)
    · exact absurd cz (by omega)
set_option maxHeartbeats 1500000 in
set_option maxRecDepth 100000 in
theorem s5_snip {d : Nat} {h : AH} {t : ST} {x y w : Int32} (m : MM h t) : AC mX5_snip (d + 300) 0 0 [.ref 66, .int x, .int y, .int w] h (Qm [eIO, eIA, eIS] (oSnip t x y w).1 (oSnip t x y w).2 h) := by
  have c := m.1
  have g := m.2.1.1
  have r := m.2.2.1
  have hn := c.1
  have gw := g.1
  have gh := g.2.1
  have gl := g.2.2.2.2.2.1
  have gc := cells48 g
  refine AC.of (by decide) rfl (Nat.le_of_ble_eq_true rfl) (fun X => ?_)
  show AW X mX5_snip (d + 300) 0 0 0 [(0, .ref 66), (1, .int x), (2, .int y), (3, .int w)] [] h (Qm [eIO, eIA, eIS] (oSnip t x y w).1 (oSnip t x y w).2 h)
  refine a_aload_n (pc := 0) (i := 0) dX5_snip_0 rfl rfl ?_
  refine a_iconst (pc := 1) (v := nI 0) dX5_snip_1 (by decide) ?_
  refine a_putI (pc := 2) (ci := 5) (k := 0) dX5_snip_2 (lf_RX5_64 rfl) (by decide) (Or.inl rfl) rfl (lt90 hn (shK_lt (show shK 66 = _ from rfl))) rfl ?_
  obtain ⟨H0, hH0⟩ : ∃ Hx, Hx = sI h 66 0 (nI 0) := ⟨_, rfl⟩
  have f0 : Fr [66] h H0 := by rw [hH0]; exact Fr.refl.sI (by simp)
  have k0 : ∀ j, j ≠ 0 → hI H0 66 j = hI h 66 j := fun j hj => by rw [hH0]; exact rd1 (by omega)
  have t0 : hI H0 66 0 = nI 0 := by rw [hH0]; exact rd2 ⟨rfl, rfl⟩
  refine a_heap (h' := H0) hH0.symm ?_
  have m0 : MM H0 t := m.scr f0 (by simp) (k0 2 (by omega)) (k0 7 (by omega)) (k0 12 (by omega))
  have c0 := m0.1
  have r0 := m0.2.2.1
  have hn0 := c0.1
  rcases Classical.em (plOk (tC t) x y) with ho | ho
  · skip
    have e1 : oSnip t x y w = _ := cif_t ho
    refine a_aload_n (pc := 5) (i := 0) dX5_snip_5 rfl rfl ?_
    refine a_iload_n (pc := 6) (i := 1) dX5_snip_6 rfl rfl ?_
    refine a_iload_n (pc := 7) (i := 2) dX5_snip_7 rfl rfl ?_
    refine a_vV1 (pc := 8) (as := [.int x, .int y]) (b := 66) (ci := 5) (v := .int (nI 0)) (h' := H0) dX5_snip_8 (lc_RX5_266 rfl) ceX5_noPlace rfl (lt90 hn0 (shK_lt (show shK 66 = _ from rfl))) (s5_noPlace0 (d := d + 298) c0 g r0 t0 ho) rfl rfl (Nat.le_of_ble_eq_true rfl) rfl ?_
    refine n_if_ne (pc := 11) (tgt := 60) dX5_snip_11 (by decide) (by omega) (fun cz => ?_) (fun cz => ?_)
    · exact absurd cz (by omega)
    · skip
      refine a_aload_n (pc := 14) (i := 0) dX5_snip_14 rfl rfl ?_
      refine a_iload_n (pc := 15) (i := 3) dX5_snip_15 rfl rfl ?_
      refine a_iconst (pc := 16) (v := nI 1) dX5_snip_16 (by decide) ?_
      refine a_bipush (pc := 17) (v := nI 8) dX5_snip_17 (by decide) ?_
      refine a_vS1 (pc := 19) (as := [.int w, .int (nI 1), .int (nI 8)]) (v := .int (bi (inB w (nI 1) (nI 8)))) (h' := H0) dX5_snip_19 (lc_RX5_86 rfl) ceX5_in s5_in rfl rfl (Nat.le_of_ble_eq_true rfl) rfl ?_
      refine b_if_ne (pc := 22) (tgt := 29) dX5_snip_22 (by decide) (fun c22 => ?_) (fun c22 => ?_)
      · obtain ⟨k, hk, rfl⟩ := (inB_n (by omega) (by omega)).mp c22
        have e2 := e1.trans (cif_t ⟨k, hk, rfl⟩)
        rw [i2n_nI (by omega)] at e2
        obtain ⟨i, n, ⟨hi, hn2⟩, rfl, rfl, es⟩ := plOk_mq g ho
        rw [es] at e2
        refine a_iconst (pc := 29) (v := nI 0) dX5_snip_29 (by decide) ?_
        refine a_iconst (pc := 30) (v := nI 2) dX5_snip_30 (by decide) ?_
        refine a_vV1 (pc := 31) (as := [.int (nI 0), .int (nI 2)]) (b := 66) (ci := 5) (v := .int (nI 0)) (h' := H0) dX5_snip_31 (lc_RX5_156 rfl) ceX5_fails rfl (lt90 hn0 (shK_lt (show shK 66 = _ from rfl))) (s5_fails0 c0 t0) rfl rfl (Nat.le_of_ble_eq_true rfl) rfl ?_
        refine n_if_ne (pc := 34) (tgt := 60) dX5_snip_34 (by decide) (by omega) (fun cz => ?_) (fun cz => ?_)
        · exact absurd cz (by omega)
        · skip
          refine a_aload_n (pc := 37) (i := 0) dX5_snip_37 rfl rfl ?_
          refine a_aload_n (pc := 38) (i := 0) dX5_snip_38 rfl rfl ?_
          refine a_iload_n (pc := 39) (i := 1) dX5_snip_39 rfl rfl ?_
          refine a_iload_n (pc := 40) (i := 2) dX5_snip_40 rfl rfl ?_
          refine a_iload_n (pc := 41) (i := 3) dX5_snip_41 rfl rfl ?_
          refine a_vV1 (pc := 42) (as := [.int (nI i), .int (nI n), .int (nI k)]) (b := 66) (ci := 5) (v := .int (bi (mq (tC t) i n % 8 + k ≤ sW (tC t) ∧ ∀ j, j < k → qcu (tC t) (mq (tC t) i n + j)))) (h' := H0) dX5_snip_42 (lc_RX5_308 rfl) ceX5_isCut rfl (lt90 hn0 (shK_lt (show shK 66 = _ from rfl))) (s5_isCut (d := d + 295) c0 g r0 hi hn2 hk.2) rfl rfl (Nat.le_of_ble_eq_true rfl) rfl ?_
          refine b_if_ne (pc := 45) (tgt := 52) dX5_snip_45 (by decide) (fun c45 => ?_) (fun c45 => ?_)
          · have e := e2.trans (cif_t c45)
            refine a_iconst (pc := 52) (v := nI 0) dX5_snip_52 (by decide) ?_
            refine a_iconst (pc := 53) (v := nI 3) dX5_snip_53 (by decide) ?_
            refine a_vV1 (pc := 54) (as := [.int (nI 0), .int (nI 3)]) (b := 66) (ci := 5) (v := .int (nI 0)) (h' := H0) dX5_snip_54 (lc_RX5_156 rfl) ceX5_fails rfl (lt90 hn0 (shK_lt (show shK 66 = _ from rfl))) (s5_fails0 c0 t0) rfl rfl (Nat.le_of_ble_eq_true rfl) rfl ?_
            refine n_if_eq (pc := 57) (tgt := 62) dX5_snip_57 (by decide) (by omega) (fun cz => ?_) (fun cz => ?_)
            · skip
              refine a_aload_n (pc := 62) (i := 0) dX5_snip_62 rfl rfl ?_
              refine a_uV (pc := 63) (as := []) (b := 66) (ci := 5) dX5_snip_63 (lc_RX5_165 rfl) ceX5_remember rfl (lt90 hn0 (shK_lt (show shK 66 = _ from rfl))) (s5_remember (d := d + 298) m0) rfl rfl (Nat.le_of_ble_eq_true rfl) (fun h2 y => y.2.1.1) (fun H1 y => ?_)
              obtain ⟨m1, f1, k1⟩ := y
              have c1 := m1.1
              have r1 := m1.2.2.1
              rw [tRem_c] at r1
              have hn1 := c1.1
              have t1 : hI H1 66 0 = nI 0 := (k1 0 (by omega)).trans t0
              have w1 : Fm H0 H1 := f1.fm' (by intro a ha; simp at ha; omega)
              have hq := mq_ok g hi hn2
              have r1b : DM H1 68 (tkS (tC t) noA 0 0) := DM_tk0 r1 (fun _ z => z)
              refine a_aload_n (pc := 66) (i := 0) dX5_snip_66 rfl rfl ?_
              refine a_iload_n (pc := 67) (i := 1) dX5_snip_67 rfl rfl ?_
              refine a_iload_n (pc := 68) (i := 2) dX5_snip_68 rfl rfl ?_
              refine a_iload_n (pc := 69) (i := 3) dX5_snip_69 rfl rfl ?_
              refine a_wV0 (pc := 70) (as := [.int (nI i), .int (nI n), .int (nI k)]) (b := 66) (ci := 5) dX5_snip_70 (lc_RX5_253 rfl) ceX5_goesOff rfl (lt90 hn1 (shK_lt (show shK 66 = _ from rfl))) (s5_goesOff (d := d + 297) c1 g r1b hi hn2 c45.1) rfl rfl (Nat.le_of_ble_eq_true rfl) (fun H2 f2 r2 => ?_)
              have ecn := cnt_pcl g hq.1 k c45.1
              rw [ecn] at e
              have r2b : DM H2 68 (tkS (tC t) (pcl (tC t) (mq (tC t) i n) k) 1 k) := DM_eq r2 rfl rfl rfl (fun c hc => ⟨fun z => z.elim Or.inl (fun z => z.elim (fun z => z.elim) Or.inr), fun z => z.elim Or.inl (fun z => Or.inr (Or.inr z))⟩) (by show (_, (sCu (tC t) + 1, sTk (tC t) + k)) = (_, (sCu (tC t) + (0 + 1), sTk (tC t) + (0 + k))); rw [Nat.zero_add, Nat.zero_add])
              have c2 := c1.fr f2
              have hn2b := c2.1
              have e66 : hI H2 66 = hI H1 66 := (f2.2.2 66 (by simp)).1
              refine a_aload_n (pc := 73) (i := 0) dX5_snip_73 rfl rfl ?_
              refine a_vV1 (pc := 74) (as := []) (b := 66) (ci := 5) (v := .int (nI (nThere (tkS (tC t) (pcl (tC t) (mq (tC t) i n) k) 1 k)))) (h' := H2) dX5_snip_74 (lc_RX5_257 rfl) ceX5_cellsThere rfl (lt90 hn2b (shK_lt (show shK 66 = _ from rfl))) (s5_cellsThere (d := d + 298) c2 (GS_tk g) r2b) rfl rfl (Nat.le_of_ble_eq_true rfl) rfl ?_
              exact a_ireturn (pc := 77) dX5_snip_77 rfl rfl (⟨_, rfl, (fun w hw => by rw [e] at hw; cases hw; rfl), by rw [e]; exact (by rw [e66]; exact t1), by rw [e]; exact m1.cur f2 (by simp) (by rw [e66]) (by rw [e66]) (by rw [e66]) r2b (GS_tk g), (f0.fm.trans w1).trans (f2.fm' (by simp))⟩)
            · exact absurd cz (by omega)
          · have e := e2.trans (cif_f c45)
            refine a_iconst (pc := 48) (v := nI 1) dX5_snip_48 (by decide) ?_
            refine a_goto (pc := 49) (tgt := 53) dX5_snip_49 (by decide) ?_
            refine a_iconst (pc := 53) (v := nI 3) dX5_snip_53 (by decide) ?_
            refine a_vV1 (pc := 54) (as := [.int (nI 1), .int (nI 3)]) (b := 66) (ci := 5) (v := .int (nI 1)) (h' := (sI H0 66 0 (nI 3))) dX5_snip_54 (lc_RX5_156 rfl) ceX5_fails rfl (lt90 hn0 (shK_lt (show shK 66 = _ from rfl))) (s5_fails1 c0 t0 (by omega)) rfl rfl (Nat.le_of_ble_eq_true rfl) rfl ?_
            refine n_if_eq (pc := 57) (tgt := 62) dX5_snip_57 (by decide) (by omega) (fun cz => ?_) (fun cz => ?_)
            · exact absurd cz (by omega)
            · skip
              refine a_iconst (pc := 60) (v := nI 0) dX5_snip_60 (by decide) ?_
              exact a_ireturn (pc := 61) dX5_snip_61 rfl rfl (⟨_, rfl, (fun w hw => by rw [e] at hw; cases hw), by rw [e, show kn [eIO, eIA, eIS] (.inr eIS) = 3 from by decide +kernel]; exact rd2 ⟨rfl, rfl⟩, by rw [e]; exact m0.scr (S := [66]) (Fr.refl.sI (by simp)) (by simp) (rd1 (by omega)) (rd1 (by omega)) (rd1 (by omega)), f0.fm.trans (Fr.fm (Fr.refl.sI (by simp)))⟩)
      · have e := e1.trans (cif_f (fun ⟨k, h1, h2⟩ => c22 ((inB_n (by omega) (by omega)).mpr ⟨k, h1, h2⟩)))
        refine a_iconst (pc := 25) (v := nI 1) dX5_snip_25 (by decide) ?_
        refine a_goto (pc := 26) (tgt := 30) dX5_snip_26 (by decide) ?_
        refine a_iconst (pc := 30) (v := nI 2) dX5_snip_30 (by decide) ?_
        refine a_vV1 (pc := 31) (as := [.int (nI 1), .int (nI 2)]) (b := 66) (ci := 5) (v := .int (nI 1)) (h' := (sI H0 66 0 (nI 2))) dX5_snip_31 (lc_RX5_156 rfl) ceX5_fails rfl (lt90 hn0 (shK_lt (show shK 66 = _ from rfl))) (s5_fails1 c0 t0 (by omega)) rfl rfl (Nat.le_of_ble_eq_true rfl) rfl ?_
        refine n_if_ne (pc := 34) (tgt := 60) dX5_snip_34 (by decide) (by omega) (fun cz => ?_) (fun cz => ?_)
        · skip
          refine a_iconst (pc := 60) (v := nI 0) dX5_snip_60 (by decide) ?_
          exact a_ireturn (pc := 61) dX5_snip_61 rfl rfl (⟨_, rfl, (fun w hw => by rw [e] at hw; cases hw), by rw [e, show kn [eIO, eIA, eIS] (.inr eIA) = 2 from by decide +kernel]; exact rd2 ⟨rfl, rfl⟩, by rw [e]; exact m0.scr (S := [66]) (Fr.refl.sI (by simp)) (by simp) (rd1 (by omega)) (rd1 (by omega)) (rd1 (by omega)), f0.fm.trans (Fr.fm (Fr.refl.sI (by simp)))⟩)
        · exact absurd cz (by omega)
  · have e : oSnip t x y w = (.inr eIO, t) := cif_f ho
    refine a_aload_n (pc := 5) (i := 0) dX5_snip_5 rfl rfl ?_
    refine a_iload_n (pc := 6) (i := 1) dX5_snip_6 rfl rfl ?_
    refine a_iload_n (pc := 7) (i := 2) dX5_snip_7 rfl rfl ?_
    refine a_vV1 (pc := 8) (as := [.int x, .int y]) (b := 66) (ci := 5) (v := .int (nI 1)) (h' := (sI H0 66 0 (nI 1))) dX5_snip_8 (lc_RX5_266 rfl) ceX5_noPlace rfl (lt90 hn0 (shK_lt (show shK 66 = _ from rfl))) (s5_noPlace1 (d := d + 298) c0 g r0 t0 ho) rfl rfl (Nat.le_of_ble_eq_true rfl) rfl ?_
    refine n_if_ne (pc := 11) (tgt := 60) dX5_snip_11 (by decide) (by omega) (fun cz => ?_) (fun cz => ?_)
    · skip
      refine a_iconst (pc := 60) (v := nI 0) dX5_snip_60 (by decide) ?_
      exact a_ireturn (pc := 61) dX5_snip_61 rfl rfl (⟨_, rfl, (fun w hw => by rw [e] at hw; cases hw), by rw [e, show kn [eIO, eIA, eIS] (.inr eIO) = 1 from by decide +kernel]; exact rd2 ⟨rfl, rfl⟩, by rw [e]; exact m0.scr (S := [66]) (Fr.refl.sI (by simp)) (by simp) (rd1 (by omega)) (rd1 (by omega)) (rd1 (by omega)), f0.fm.trans (Fr.fm (Fr.refl.sI (by simp)))⟩)
    · exact absurd cz (by omega)
def apW (w0 w1 w2 w3 w4 : Int32) (k : Nat) : Int32 := if k < 4 then w0 else if k < 8 then w1 else if k < 12 then w2 else if k < 16 then w3 else w4
def apB (w : Int32) (j : Nat) : Int32 := (w >>> (nI (24 - 8 * j) &&& 31)) &&& 255
theorem b255 (x : Int32) : x.toInt8.toInt32 &&& 255 = x &&& 255 := by
  apply Int32.toBitVec_inj.mp
  rw [Int32.toBitVec_and, Int32.toBitVec_and, Int8.toBitVec_toInt32, Int32.toBitVec_toInt8]
  refine BitVec.eq_of_getLsbD_eq fun i hi => ?_
  simp only [BitVec.getLsbD_and, BitVec.getLsbD_signExtend]
  by_cases z : i < 8
  · simp [z, hi]
  · have e : (255 : Int32).toBitVec.getLsbD i = false := (by decide : ∀ i : Fin 32, ¬ i.val < 8 → (255 : Int32).toBitVec.getLsbD i.val = false) ⟨i, hi⟩ z
    rw [e, Bool.and_false, Bool.and_false]
theorem byt_255 {w : Int32} {j : Nat} : byt w j &&& 255 = apB w j := b255 _
theorem tApp_Y {t : ST} {w0 w1 w2 w3 w4 : Int32} {i : Nat} (hi : i < 20) : tY (tApp1 (tApp1 (tApp1 (tApp1 (tApp1 t w0) w1) w2) w3) w4) (tB t + i) = byt (apW w0 w1 w2 w3 w4 i) (i % 4) := by
  show (if tB t + i < tB t + 4 + 4 + 4 + 4 then (if tB t + i < tB t + 4 + 4 + 4 then (if tB t + i < tB t + 4 + 4 then (if tB t + i < tB t + 4 then (if tB t + i < tB t then tY t (tB t + i) else byt w0 (tB t + i - tB t)) else byt w1 (tB t + i - (tB t + 4))) else byt w2 (tB t + i - (tB t + 4 + 4))) else byt w3 (tB t + i - (tB t + 4 + 4 + 4))) else byt w4 (tB t + i - (tB t + 4 + 4 + 4 + 4))) = byt (if i < 4 then w0 else if i < 8 then w1 else if i < 12 then w2 else if i < 16 then w3 else w4) (i % 4)
  rcases (by omega : i < 4 ∨ (4 ≤ i ∧ i < 8) ∨ (8 ≤ i ∧ i < 12) ∨ (12 ≤ i ∧ i < 16) ∨ 16 ≤ i) with z | z | z | z | z
  · rw [if_pos (by omega), if_pos (by omega), if_pos (by omega), if_pos (by omega), if_neg (by omega), if_pos z]; congr 1; omega
  · rw [if_pos (by omega), if_pos (by omega), if_pos (by omega), if_neg (by omega), if_neg (by omega), if_pos (by omega)]; congr 1; omega
  · rw [if_pos (by omega), if_pos (by omega), if_neg (by omega), if_neg (by omega), if_neg (by omega), if_pos (by omega)]; congr 1; omega
  · rw [if_pos (by omega), if_neg (by omega), if_neg (by omega), if_neg (by omega), if_neg (by omega), if_pos (by omega)]; congr 1; omega
  · rw [if_neg (by omega), if_neg (by omega), if_neg (by omega), if_neg (by omega), if_neg (by omega)]; congr 1; omega
theorem tApp_O {t : ST} {w0 w1 w2 w3 w4 : Int32} {j : Nat} (hj : j < tB t) : tY (tApp1 (tApp1 (tApp1 (tApp1 (tApp1 t w0) w1) w2) w3) w4) j = tY t j := by
  show (if j < tB t + 4 + 4 + 4 + 4 then (if j < tB t + 4 + 4 + 4 then (if j < tB t + 4 + 4 then (if j < tB t + 4 then (if j < tB t then tY t j else _) else _) else _) else _) else _) = _
  rw [if_pos (by omega), if_pos (by omega), if_pos (by omega), if_pos (by omega), if_pos (by omega)]
theorem tApp_8 {t : ST} (h : ∀ j, ∃ b : Int8, tY t j = b.toInt32) {w : Int32} : ∀ j, ∃ b : Int8, tY (tApp1 t w) j = b.toInt32 := fun j => by
  show ∃ b : Int8, (if j < tB t then tY t j else byt w (j - tB t)) = b.toInt32
  split
  · exact h j
  · exact ⟨_, rfl⟩
set_option maxHeartbeats 1500000 in
set_option maxRecDepth 100000 in
theorem s5_append {d : Nat} {h : AH} {t : ST} {w0 w1 w2 w3 w4 : Int32} (m : MM h t) : AC mX5_append (d + 300) 0 0 [.ref 66, .int w0, .int w1, .int w2, .int w3, .int w4] h (fun r h2 => ∃ u : Int32, r = .inl (some (.int u)) ∧ (oApp t w0 w1 w2 w3 w4).1 = .inl (some (.int u)) ∧ MM h2 (oApp t w0 w1 w2 w3 w4).2 ∧ Fm h h2) := by
  have c := m.1
  have g := m.2.1.1
  have r := m.2.2.1
  have hn := c.1
  have gw := g.1
  have gh := g.2.1
  have gl := g.2.2.2.2.2.1
  have gc := cells48 g
  refine AC.of (by decide) rfl (Nat.le_of_ble_eq_true rfl) (fun X => ?_)
  show AW X mX5_append (d + 300) 0 0 0 [(0, .ref 66), (1, .int w0), (2, .int w1), (3, .int w2), (4, .int w3), (5, .int w4)] [] h (fun r h2 => ∃ u : Int32, r = .inl (some (.int u)) ∧ (oApp t w0 w1 w2 w3 w4).1 = .inl (some (.int u)) ∧ MM h2 (oApp t w0 w1 w2 w3 w4).2 ∧ Fm h h2)
  refine a_aload_n (pc := 0) (i := 0) dX5_append_0 rfl rfl ?_
  refine a_iconst (pc := 1) (v := nI 0) dX5_append_1 (by decide) ?_
  refine a_putI (pc := 2) (ci := 5) (k := 0) dX5_append_2 (lf_RX5_64 rfl) (by decide) (Or.inl rfl) rfl (lt90 hn (shK_lt (show shK 66 = _ from rfl))) rfl ?_
  obtain ⟨H0, hH0⟩ : ∃ Hx, Hx = sI h 66 0 (nI 0) := ⟨_, rfl⟩
  have f0 : Fr [66] h H0 := by rw [hH0]; exact Fr.refl.sI (by simp)
  have k0 : ∀ j, j ≠ 0 → hI H0 66 j = hI h 66 j := fun j hj => by rw [hH0]; exact rd1 (by omega)
  have t0 : hI H0 66 0 = nI 0 := by rw [hH0]; exact rd2 ⟨rfl, rfl⟩
  refine a_heap (h' := H0) hH0.symm ?_
  have m0 : MM H0 t := m.scr f0 (by simp) (k0 2 (by omega)) (k0 7 (by omega)) (k0 12 (by omega))
  have c0 := m0.1
  have r0 := m0.2.2.1
  have hn0 := c0.1
  have b0 := m0.2.2.2.1
  have hb4 := m0.2.1.2.1
  refine a_aload_n (pc := 5) (i := 0) dX5_append_5 rfl rfl ?_
  refine a_getI (pc := 6) (ci := 5) (k := 2) dX5_append_6 (lf_RX5_67 rfl) (by decide) rfl rfl (lt90 hn0 (shK_lt (show shK 66 = _ from rfl))) ?_
  refine a_top (show (.int (hI H0 66 2) : Value) = .int (nI (tB t)) from congrArg Value.int b0.1) ?_
  refine a_bipush (pc := 9) (v := nI 20) dX5_append_9 (by decide) ?_
  refine n_iadd (pc := 11) dX5_append_11 ?_
  refine a_sipush (pc := 12) (v := nI 400) dX5_append_12 (by decide) ?_
  refine n_icmp_le (pc := 15) (tgt := 20) dX5_append_15 (by decide) (by omega) (by omega) (fun c15 => ?_) (fun c15 => ?_)
  · have e : oApp t w0 w1 w2 w3 w4 = _ := if_neg (by omega)
    refine a_iconst (pc := 20) (v := nI 0) dX5_append_20 (by decide) ?_
    refine a_istore (pc := 21) (i := 6) (ls' := [(0, .ref 66), (1, .int w0), (2, .int w1), (3, .int w2), (4, .int w3), (5, .int w4), (6, .int (nI 0))]) dX5_append_21 (by decide) rfl ?_
    have LP : ∀ (fu : Nat) (k : Nat) (H : AH), k ≤ 20 → Fr [66, 67] H0 H → hI H 66 2 = nI (tB t + k) → (∀ j, j ≠ 2 → hI H 66 j = hI H0 66 j) → (∀ j, j < tB t → hI H 67 j = hI H0 67 j) → (∀ j, j < k → hI H 67 (tB t + j) = apB (apW w0 w1 w2 w3 w4 j) (j % 4)) → 20 - k < fu → AW X mX5_append (d + 300) 0 0 23 [(0, .ref 66), (1, .int w0), (2, .int w1), (3, .int w2), (4, .int w3), (5, .int w4), (6, .int (nI k))] [] H (fun r h2 => ∃ u : Int32, r = .inl (some (.int u)) ∧ (oApp t w0 w1 w2 w3 w4).1 = .inl (some (.int u)) ∧ MM h2 (oApp t w0 w1 w2 w3 w4).2 ∧ Fm h h2) := by
      intro fu
      induction fu with
      | zero => intro k H hk hf h2 hj ho hw hz; exact absurd hz (Nat.not_lt_zero _)
      | succ fu ih =>
        intro k H hk hf h2 hj ho hw hz
        have c1 := c0.fr hf
        have hn1 := c1.1
        refine a_iload (pc := 23) (i := 6) dX5_append_23 rfl ?_
        refine a_bipush (pc := 25) (v := nI 20) dX5_append_25 (by decide) ?_
        refine n_icmp_ge (pc := 27) (tgt := 120) dX5_append_27 (by decide) (by omega) (by omega) (fun c27 => ?_) (fun c27 => ?_)
        · have ek : k = 20 := by omega
          subst ek
          refine a_aload_n (pc := 120) (i := 0) dX5_append_120 rfl rfl ?_
          refine a_getI (pc := 121) (ci := 5) (k := 2) dX5_append_121 (lf_RX5_67 rfl) (by decide) rfl rfl (lt90 hn1 (shK_lt (show shK 66 = _ from rfl))) ?_
          refine a_top (show (.int (hI H 66 2) : Value) = .int (nI (tB t + 20)) from congrArg Value.int h2) ?_
          exact a_ireturn (pc := 124) dX5_append_124 rfl rfl (⟨_, rfl, by rw [e]; rfl, by
      rw [e]
      refine ⟨c1, ⟨m0.2.1.1, by show tB t + 4 + 4 + 4 + 4 + 4 ≤ 400; omega, tApp_8 (tApp_8 (tApp_8 (tApp_8 (tApp_8 m0.2.1.2.2.1)))), m0.2.1.2.2.2⟩, r0.fr hf (by simp), ⟨h2, fun j hj2 => ?_⟩, (hj 7 (by omega)).trans m0.2.2.2.2.1, (hj 12 (by omega)).trans m0.2.2.2.2.2.1, fun i hi => (m0.2.2.2.2.2.2 i hi).fr hf (by simp; omega)⟩
      have hj3 : j < tB t + 4 + 4 + 4 + 4 + 4 := hj2
      rcases (if z : j < tB t then Or.inl z else Or.inr ⟨j - tB t, by omega, by omega⟩ : j < tB t ∨ ∃ i, j = tB t + i ∧ i < 20) with z | ⟨i, rfl, z⟩
      · rw [ho j z, tApp_O z]; exact b0.2 j z
      · rw [hw i z, tApp_Y z, byt_255], f0.fm.trans (hf.fm' (by simp))⟩)
        · skip
          refine a_iload (pc := 30) (i := 6) dX5_append_30 rfl ?_
          refine a_iconst (pc := 32) (v := nI 4) dX5_append_32 (by decide) ?_
          refine n_icmp_ge (pc := 33) (tgt := 40) dX5_append_33 (by decide) (by omega) (by omega) (fun k0 => ?_) (fun k0 => ?_)
          · skip
            refine a_iload (pc := 40) (i := 6) dX5_append_40 rfl ?_
            refine a_bipush (pc := 42) (v := nI 8) dX5_append_42 (by decide) ?_
            refine n_icmp_ge (pc := 44) (tgt := 51) dX5_append_44 (by decide) (by omega) (by omega) (fun k1 => ?_) (fun k1 => ?_)
            · skip
              refine a_iload (pc := 51) (i := 6) dX5_append_51 rfl ?_
              refine a_bipush (pc := 53) (v := nI 12) dX5_append_53 (by decide) ?_
              refine n_icmp_ge (pc := 55) (tgt := 62) dX5_append_55 (by decide) (by omega) (by omega) (fun k2 => ?_) (fun k2 => ?_)
              · skip
                refine a_iload (pc := 62) (i := 6) dX5_append_62 rfl ?_
                refine a_bipush (pc := 64) (v := nI 16) dX5_append_64 (by decide) ?_
                refine n_icmp_ge (pc := 66) (tgt := 74) dX5_append_66 (by decide) (by omega) (by omega) (fun k3 => ?_) (fun k3 => ?_)
                · skip
                  have ew : apW w0 w1 w2 w3 w4 k = w4 := by unfold apW; rw [if_neg (by omega), if_neg (by omega), if_neg (by omega), if_neg (by omega)]
                  refine a_iload (pc := 74) (i := 5) dX5_append_74 rfl ?_
                  refine a_istore (pc := 76) (i := 7) (ls' := [(0, .ref 66), (1, .int w0), (2, .int w1), (3, .int w2), (4, .int w3), (5, .int w4), (6, .int (nI k)), (7, .int w4)]) dX5_append_76 (by decide) rfl ?_
                  refine a_aload_n (pc := 78) (i := 0) dX5_append_78 rfl rfl ?_
                  refine a_getR (pc := 79) (ci := 5) (k := 1) (b := 67) dX5_append_79 (lf_RX5_9 rfl) (by decide) rfl rfl (lt90 hn1 (shK_lt (show shK 66 = _ from rfl))) c1.2.2.2.2.2.2.2.2.1.1 ?_
                  refine a_aload_n (pc := 82) (i := 0) dX5_append_82 rfl rfl ?_
                  refine a_getI (pc := 83) (ci := 5) (k := 2) dX5_append_83 (lf_RX5_67 rfl) (by decide) rfl rfl (lt90 hn1 (shK_lt (show shK 66 = _ from rfl))) ?_
                  refine a_top (show (.int (hI H 66 2) : Value) = .int (nI (tB t + k)) from congrArg Value.int h2) ?_
                  refine a_iload (pc := 86) (i := 7) dX5_append_86 rfl ?_
                  refine a_bipush (pc := 88) (v := nI 24) dX5_append_88 (by decide) ?_
                  refine a_bipush (pc := 90) (v := nI 8) dX5_append_90 (by decide) ?_
                  refine a_iload (pc := 92) (i := 6) dX5_append_92 rfl ?_
                  refine a_iconst (pc := 94) (v := nI 4) dX5_append_94 (by decide) ?_
                  refine n_irem (pc := 95) dX5_append_95 (by omega) (by omega) (by omega) ?_
                  refine n_imul (pc := 96) dX5_append_96 ?_
                  refine n_isub (pc := 97) dX5_append_97 (by omega) ?_
                  refine a_ishr (pc := 98) dX5_append_98 ?_
                  refine a_sipush (pc := 99) (v := nI 255) dX5_append_99 (by decide) ?_
                  refine a_iand (pc := 102) dX5_append_102 ?_
                  refine a_top (show (.int ((w4 >>> ((nI (24 - (8 * (k % 4)))) &&& 31)) &&& (nI 255)) : Value) = .int (apB w4 (k % 4)) from rfl) ?_
                  refine a_iast (pc := 103) (j := (tB t + k)) dX5_append_103 rfl (lt90 hn1 (shK_lt (show shK 67 = _ from rfl))) rfl (by omega) ?_
                  refine a_aload_n (pc := 104) (i := 0) dX5_append_104 rfl rfl ?_
                  refine a_dup (pc := 105) dX5_append_105 rfl ?_
                  refine a_getI (pc := 106) (ci := 5) (k := 2) dX5_append_106 (lf_RX5_67 rfl) (by decide) rfl rfl (lt90 hn1 (shK_lt (show shK 66 = _ from rfl))) ?_
                  refine a_top (show (.int (hI (sI H 67 (tB t + k) (apB w4 (k % 4))) 66 2) : Value) = .int (nI (tB t + k)) from congrArg Value.int ((rd1 (by omega)).trans h2)) ?_
                  refine a_iconst (pc := 109) (v := nI 1) dX5_append_109 (by decide) ?_
                  refine n_iadd (pc := 110) dX5_append_110 ?_
                  refine a_putI (pc := 111) (ci := 5) (k := 2) dX5_append_111 (lf_RX5_67 rfl) (by decide) (Or.inl rfl) rfl (lt90 hn1 (shK_lt (show shK 66 = _ from rfl))) rfl ?_
                  refine n_iinc (pc := 114) (k := 1) (ls' := [(0, .ref 66), (1, .int w0), (2, .int w1), (3, .int w2), (4, .int w3), (5, .int w4), (6, .int (nI (k + 1))), (7, .int w4)]) dX5_append_114 rfl (by decide) (by decide) rfl ?_
                  refine a_goto (pc := 117) (tgt := 23) dX5_append_117 (by decide) ?_
                  refine a_drop (ls' := [(0, .ref 66), (1, .int w0), (2, .int w1), (3, .int w2), (4, .int w3), (5, .int w4), (6, .int (nI (k + 1)))]) (by simp) ?_
                  exact ih (k + 1) _ (by omega) ((hf.sI (by simp)).sI (by simp)) (rd2 ⟨rfl, by omega⟩) (fun j h9 => by rw [rd1 (by omega), rd1 (by omega)]; exact hj j h9) (fun j h9 => by rw [rd1 (by omega), rd1 (by omega)]; exact ho j h9) (fun j h9 => by
                      by_cases ej : j = k
                      · rw [rd1 (by omega), rd2 ⟨rfl, by omega⟩, ej, ew]
                      · rw [rd1 (by omega), rd1 (by omega)]; exact hw j (by omega)) (by omega)
                · skip
                  have ew : apW w0 w1 w2 w3 w4 k = w3 := by unfold apW; rw [if_neg (by omega), if_neg (by omega), if_neg (by omega), if_pos (by omega)]
                  refine a_iload (pc := 69) (i := 4) dX5_append_69 rfl ?_
                  refine a_goto (pc := 71) (tgt := 76) dX5_append_71 (by decide) ?_
                  refine a_istore (pc := 76) (i := 7) (ls' := [(0, .ref 66), (1, .int w0), (2, .int w1), (3, .int w2), (4, .int w3), (5, .int w4), (6, .int (nI k)), (7, .int w3)]) dX5_append_76 (by decide) rfl ?_
                  refine a_aload_n (pc := 78) (i := 0) dX5_append_78 rfl rfl ?_
                  refine a_getR (pc := 79) (ci := 5) (k := 1) (b := 67) dX5_append_79 (lf_RX5_9 rfl) (by decide) rfl rfl (lt90 hn1 (shK_lt (show shK 66 = _ from rfl))) c1.2.2.2.2.2.2.2.2.1.1 ?_
                  refine a_aload_n (pc := 82) (i := 0) dX5_append_82 rfl rfl ?_
                  refine a_getI (pc := 83) (ci := 5) (k := 2) dX5_append_83 (lf_RX5_67 rfl) (by decide) rfl rfl (lt90 hn1 (shK_lt (show shK 66 = _ from rfl))) ?_
                  refine a_top (show (.int (hI H 66 2) : Value) = .int (nI (tB t + k)) from congrArg Value.int h2) ?_
                  refine a_iload (pc := 86) (i := 7) dX5_append_86 rfl ?_
                  refine a_bipush (pc := 88) (v := nI 24) dX5_append_88 (by decide) ?_
                  refine a_bipush (pc := 90) (v := nI 8) dX5_append_90 (by decide) ?_
                  refine a_iload (pc := 92) (i := 6) dX5_append_92 rfl ?_
                  refine a_iconst (pc := 94) (v := nI 4) dX5_append_94 (by decide) ?_
                  refine n_irem (pc := 95) dX5_append_95 (by omega) (by omega) (by omega) ?_
                  refine n_imul (pc := 96) dX5_append_96 ?_
                  refine n_isub (pc := 97) dX5_append_97 (by omega) ?_
                  refine a_ishr (pc := 98) dX5_append_98 ?_
                  refine a_sipush (pc := 99) (v := nI 255) dX5_append_99 (by decide) ?_
                  refine a_iand (pc := 102) dX5_append_102 ?_
                  refine a_top (show (.int ((w3 >>> ((nI (24 - (8 * (k % 4)))) &&& 31)) &&& (nI 255)) : Value) = .int (apB w3 (k % 4)) from rfl) ?_
                  refine a_iast (pc := 103) (j := (tB t + k)) dX5_append_103 rfl (lt90 hn1 (shK_lt (show shK 67 = _ from rfl))) rfl (by omega) ?_
                  refine a_aload_n (pc := 104) (i := 0) dX5_append_104 rfl rfl ?_
                  refine a_dup (pc := 105) dX5_append_105 rfl ?_
                  refine a_getI (pc := 106) (ci := 5) (k := 2) dX5_append_106 (lf_RX5_67 rfl) (by decide) rfl rfl (lt90 hn1 (shK_lt (show shK 66 = _ from rfl))) ?_
                  refine a_top (show (.int (hI (sI H 67 (tB t + k) (apB w3 (k % 4))) 66 2) : Value) = .int (nI (tB t + k)) from congrArg Value.int ((rd1 (by omega)).trans h2)) ?_
                  refine a_iconst (pc := 109) (v := nI 1) dX5_append_109 (by decide) ?_
                  refine n_iadd (pc := 110) dX5_append_110 ?_
                  refine a_putI (pc := 111) (ci := 5) (k := 2) dX5_append_111 (lf_RX5_67 rfl) (by decide) (Or.inl rfl) rfl (lt90 hn1 (shK_lt (show shK 66 = _ from rfl))) rfl ?_
                  refine n_iinc (pc := 114) (k := 1) (ls' := [(0, .ref 66), (1, .int w0), (2, .int w1), (3, .int w2), (4, .int w3), (5, .int w4), (6, .int (nI (k + 1))), (7, .int w3)]) dX5_append_114 rfl (by decide) (by decide) rfl ?_
                  refine a_goto (pc := 117) (tgt := 23) dX5_append_117 (by decide) ?_
                  refine a_drop (ls' := [(0, .ref 66), (1, .int w0), (2, .int w1), (3, .int w2), (4, .int w3), (5, .int w4), (6, .int (nI (k + 1)))]) (by simp) ?_
                  exact ih (k + 1) _ (by omega) ((hf.sI (by simp)).sI (by simp)) (rd2 ⟨rfl, by omega⟩) (fun j h9 => by rw [rd1 (by omega), rd1 (by omega)]; exact hj j h9) (fun j h9 => by rw [rd1 (by omega), rd1 (by omega)]; exact ho j h9) (fun j h9 => by
                      by_cases ej : j = k
                      · rw [rd1 (by omega), rd2 ⟨rfl, by omega⟩, ej, ew]
                      · rw [rd1 (by omega), rd1 (by omega)]; exact hw j (by omega)) (by omega)
              · skip
                have ew : apW w0 w1 w2 w3 w4 k = w2 := by unfold apW; rw [if_neg (by omega), if_neg (by omega), if_pos (by omega)]
                refine a_iload_n (pc := 58) (i := 3) dX5_append_58 rfl rfl ?_
                refine a_goto (pc := 59) (tgt := 76) dX5_append_59 (by decide) ?_
                refine a_istore (pc := 76) (i := 7) (ls' := [(0, .ref 66), (1, .int w0), (2, .int w1), (3, .int w2), (4, .int w3), (5, .int w4), (6, .int (nI k)), (7, .int w2)]) dX5_append_76 (by decide) rfl ?_
                refine a_aload_n (pc := 78) (i := 0) dX5_append_78 rfl rfl ?_
                refine a_getR (pc := 79) (ci := 5) (k := 1) (b := 67) dX5_append_79 (lf_RX5_9 rfl) (by decide) rfl rfl (lt90 hn1 (shK_lt (show shK 66 = _ from rfl))) c1.2.2.2.2.2.2.2.2.1.1 ?_
                refine a_aload_n (pc := 82) (i := 0) dX5_append_82 rfl rfl ?_
                refine a_getI (pc := 83) (ci := 5) (k := 2) dX5_append_83 (lf_RX5_67 rfl) (by decide) rfl rfl (lt90 hn1 (shK_lt (show shK 66 = _ from rfl))) ?_
                refine a_top (show (.int (hI H 66 2) : Value) = .int (nI (tB t + k)) from congrArg Value.int h2) ?_
                refine a_iload (pc := 86) (i := 7) dX5_append_86 rfl ?_
                refine a_bipush (pc := 88) (v := nI 24) dX5_append_88 (by decide) ?_
                refine a_bipush (pc := 90) (v := nI 8) dX5_append_90 (by decide) ?_
                refine a_iload (pc := 92) (i := 6) dX5_append_92 rfl ?_
                refine a_iconst (pc := 94) (v := nI 4) dX5_append_94 (by decide) ?_
                refine n_irem (pc := 95) dX5_append_95 (by omega) (by omega) (by omega) ?_
                refine n_imul (pc := 96) dX5_append_96 ?_
                refine n_isub (pc := 97) dX5_append_97 (by omega) ?_
                refine a_ishr (pc := 98) dX5_append_98 ?_
                refine a_sipush (pc := 99) (v := nI 255) dX5_append_99 (by decide) ?_
                refine a_iand (pc := 102) dX5_append_102 ?_
                refine a_top (show (.int ((w2 >>> ((nI (24 - (8 * (k % 4)))) &&& 31)) &&& (nI 255)) : Value) = .int (apB w2 (k % 4)) from rfl) ?_
                refine a_iast (pc := 103) (j := (tB t + k)) dX5_append_103 rfl (lt90 hn1 (shK_lt (show shK 67 = _ from rfl))) rfl (by omega) ?_
                refine a_aload_n (pc := 104) (i := 0) dX5_append_104 rfl rfl ?_
                refine a_dup (pc := 105) dX5_append_105 rfl ?_
                refine a_getI (pc := 106) (ci := 5) (k := 2) dX5_append_106 (lf_RX5_67 rfl) (by decide) rfl rfl (lt90 hn1 (shK_lt (show shK 66 = _ from rfl))) ?_
                refine a_top (show (.int (hI (sI H 67 (tB t + k) (apB w2 (k % 4))) 66 2) : Value) = .int (nI (tB t + k)) from congrArg Value.int ((rd1 (by omega)).trans h2)) ?_
                refine a_iconst (pc := 109) (v := nI 1) dX5_append_109 (by decide) ?_
                refine n_iadd (pc := 110) dX5_append_110 ?_
                refine a_putI (pc := 111) (ci := 5) (k := 2) dX5_append_111 (lf_RX5_67 rfl) (by decide) (Or.inl rfl) rfl (lt90 hn1 (shK_lt (show shK 66 = _ from rfl))) rfl ?_
                refine n_iinc (pc := 114) (k := 1) (ls' := [(0, .ref 66), (1, .int w0), (2, .int w1), (3, .int w2), (4, .int w3), (5, .int w4), (6, .int (nI (k + 1))), (7, .int w2)]) dX5_append_114 rfl (by decide) (by decide) rfl ?_
                refine a_goto (pc := 117) (tgt := 23) dX5_append_117 (by decide) ?_
                refine a_drop (ls' := [(0, .ref 66), (1, .int w0), (2, .int w1), (3, .int w2), (4, .int w3), (5, .int w4), (6, .int (nI (k + 1)))]) (by simp) ?_
                exact ih (k + 1) _ (by omega) ((hf.sI (by simp)).sI (by simp)) (rd2 ⟨rfl, by omega⟩) (fun j h9 => by rw [rd1 (by omega), rd1 (by omega)]; exact hj j h9) (fun j h9 => by rw [rd1 (by omega), rd1 (by omega)]; exact ho j h9) (fun j h9 => by
                    by_cases ej : j = k
                    · rw [rd1 (by omega), rd2 ⟨rfl, by omega⟩, ej, ew]
                    · rw [rd1 (by omega), rd1 (by omega)]; exact hw j (by omega)) (by omega)
            · skip
              have ew : apW w0 w1 w2 w3 w4 k = w1 := by unfold apW; rw [if_neg (by omega), if_pos (by omega)]
              refine a_iload_n (pc := 47) (i := 2) dX5_append_47 rfl rfl ?_
              refine a_goto (pc := 48) (tgt := 76) dX5_append_48 (by decide) ?_
              refine a_istore (pc := 76) (i := 7) (ls' := [(0, .ref 66), (1, .int w0), (2, .int w1), (3, .int w2), (4, .int w3), (5, .int w4), (6, .int (nI k)), (7, .int w1)]) dX5_append_76 (by decide) rfl ?_
              refine a_aload_n (pc := 78) (i := 0) dX5_append_78 rfl rfl ?_
              refine a_getR (pc := 79) (ci := 5) (k := 1) (b := 67) dX5_append_79 (lf_RX5_9 rfl) (by decide) rfl rfl (lt90 hn1 (shK_lt (show shK 66 = _ from rfl))) c1.2.2.2.2.2.2.2.2.1.1 ?_
              refine a_aload_n (pc := 82) (i := 0) dX5_append_82 rfl rfl ?_
              refine a_getI (pc := 83) (ci := 5) (k := 2) dX5_append_83 (lf_RX5_67 rfl) (by decide) rfl rfl (lt90 hn1 (shK_lt (show shK 66 = _ from rfl))) ?_
              refine a_top (show (.int (hI H 66 2) : Value) = .int (nI (tB t + k)) from congrArg Value.int h2) ?_
              refine a_iload (pc := 86) (i := 7) dX5_append_86 rfl ?_
              refine a_bipush (pc := 88) (v := nI 24) dX5_append_88 (by decide) ?_
              refine a_bipush (pc := 90) (v := nI 8) dX5_append_90 (by decide) ?_
              refine a_iload (pc := 92) (i := 6) dX5_append_92 rfl ?_
              refine a_iconst (pc := 94) (v := nI 4) dX5_append_94 (by decide) ?_
              refine n_irem (pc := 95) dX5_append_95 (by omega) (by omega) (by omega) ?_
              refine n_imul (pc := 96) dX5_append_96 ?_
              refine n_isub (pc := 97) dX5_append_97 (by omega) ?_
              refine a_ishr (pc := 98) dX5_append_98 ?_
              refine a_sipush (pc := 99) (v := nI 255) dX5_append_99 (by decide) ?_
              refine a_iand (pc := 102) dX5_append_102 ?_
              refine a_top (show (.int ((w1 >>> ((nI (24 - (8 * (k % 4)))) &&& 31)) &&& (nI 255)) : Value) = .int (apB w1 (k % 4)) from rfl) ?_
              refine a_iast (pc := 103) (j := (tB t + k)) dX5_append_103 rfl (lt90 hn1 (shK_lt (show shK 67 = _ from rfl))) rfl (by omega) ?_
              refine a_aload_n (pc := 104) (i := 0) dX5_append_104 rfl rfl ?_
              refine a_dup (pc := 105) dX5_append_105 rfl ?_
              refine a_getI (pc := 106) (ci := 5) (k := 2) dX5_append_106 (lf_RX5_67 rfl) (by decide) rfl rfl (lt90 hn1 (shK_lt (show shK 66 = _ from rfl))) ?_
              refine a_top (show (.int (hI (sI H 67 (tB t + k) (apB w1 (k % 4))) 66 2) : Value) = .int (nI (tB t + k)) from congrArg Value.int ((rd1 (by omega)).trans h2)) ?_
              refine a_iconst (pc := 109) (v := nI 1) dX5_append_109 (by decide) ?_
              refine n_iadd (pc := 110) dX5_append_110 ?_
              refine a_putI (pc := 111) (ci := 5) (k := 2) dX5_append_111 (lf_RX5_67 rfl) (by decide) (Or.inl rfl) rfl (lt90 hn1 (shK_lt (show shK 66 = _ from rfl))) rfl ?_
              refine n_iinc (pc := 114) (k := 1) (ls' := [(0, .ref 66), (1, .int w0), (2, .int w1), (3, .int w2), (4, .int w3), (5, .int w4), (6, .int (nI (k + 1))), (7, .int w1)]) dX5_append_114 rfl (by decide) (by decide) rfl ?_
              refine a_goto (pc := 117) (tgt := 23) dX5_append_117 (by decide) ?_
              refine a_drop (ls' := [(0, .ref 66), (1, .int w0), (2, .int w1), (3, .int w2), (4, .int w3), (5, .int w4), (6, .int (nI (k + 1)))]) (by simp) ?_
              exact ih (k + 1) _ (by omega) ((hf.sI (by simp)).sI (by simp)) (rd2 ⟨rfl, by omega⟩) (fun j h9 => by rw [rd1 (by omega), rd1 (by omega)]; exact hj j h9) (fun j h9 => by rw [rd1 (by omega), rd1 (by omega)]; exact ho j h9) (fun j h9 => by
                  by_cases ej : j = k
                  · rw [rd1 (by omega), rd2 ⟨rfl, by omega⟩, ej, ew]
                  · rw [rd1 (by omega), rd1 (by omega)]; exact hw j (by omega)) (by omega)
          · skip
            have ew : apW w0 w1 w2 w3 w4 k = w0 := by unfold apW; rw [if_pos (by omega)]
            refine a_iload_n (pc := 36) (i := 1) dX5_append_36 rfl rfl ?_
            refine a_goto (pc := 37) (tgt := 76) dX5_append_37 (by decide) ?_
            refine a_istore (pc := 76) (i := 7) (ls' := [(0, .ref 66), (1, .int w0), (2, .int w1), (3, .int w2), (4, .int w3), (5, .int w4), (6, .int (nI k)), (7, .int w0)]) dX5_append_76 (by decide) rfl ?_
            refine a_aload_n (pc := 78) (i := 0) dX5_append_78 rfl rfl ?_
            refine a_getR (pc := 79) (ci := 5) (k := 1) (b := 67) dX5_append_79 (lf_RX5_9 rfl) (by decide) rfl rfl (lt90 hn1 (shK_lt (show shK 66 = _ from rfl))) c1.2.2.2.2.2.2.2.2.1.1 ?_
            refine a_aload_n (pc := 82) (i := 0) dX5_append_82 rfl rfl ?_
            refine a_getI (pc := 83) (ci := 5) (k := 2) dX5_append_83 (lf_RX5_67 rfl) (by decide) rfl rfl (lt90 hn1 (shK_lt (show shK 66 = _ from rfl))) ?_
            refine a_top (show (.int (hI H 66 2) : Value) = .int (nI (tB t + k)) from congrArg Value.int h2) ?_
            refine a_iload (pc := 86) (i := 7) dX5_append_86 rfl ?_
            refine a_bipush (pc := 88) (v := nI 24) dX5_append_88 (by decide) ?_
            refine a_bipush (pc := 90) (v := nI 8) dX5_append_90 (by decide) ?_
            refine a_iload (pc := 92) (i := 6) dX5_append_92 rfl ?_
            refine a_iconst (pc := 94) (v := nI 4) dX5_append_94 (by decide) ?_
            refine n_irem (pc := 95) dX5_append_95 (by omega) (by omega) (by omega) ?_
            refine n_imul (pc := 96) dX5_append_96 ?_
            refine n_isub (pc := 97) dX5_append_97 (by omega) ?_
            refine a_ishr (pc := 98) dX5_append_98 ?_
            refine a_sipush (pc := 99) (v := nI 255) dX5_append_99 (by decide) ?_
            refine a_iand (pc := 102) dX5_append_102 ?_
            refine a_top (show (.int ((w0 >>> ((nI (24 - (8 * (k % 4)))) &&& 31)) &&& (nI 255)) : Value) = .int (apB w0 (k % 4)) from rfl) ?_
            refine a_iast (pc := 103) (j := (tB t + k)) dX5_append_103 rfl (lt90 hn1 (shK_lt (show shK 67 = _ from rfl))) rfl (by omega) ?_
            refine a_aload_n (pc := 104) (i := 0) dX5_append_104 rfl rfl ?_
            refine a_dup (pc := 105) dX5_append_105 rfl ?_
            refine a_getI (pc := 106) (ci := 5) (k := 2) dX5_append_106 (lf_RX5_67 rfl) (by decide) rfl rfl (lt90 hn1 (shK_lt (show shK 66 = _ from rfl))) ?_
            refine a_top (show (.int (hI (sI H 67 (tB t + k) (apB w0 (k % 4))) 66 2) : Value) = .int (nI (tB t + k)) from congrArg Value.int ((rd1 (by omega)).trans h2)) ?_
            refine a_iconst (pc := 109) (v := nI 1) dX5_append_109 (by decide) ?_
            refine n_iadd (pc := 110) dX5_append_110 ?_
            refine a_putI (pc := 111) (ci := 5) (k := 2) dX5_append_111 (lf_RX5_67 rfl) (by decide) (Or.inl rfl) rfl (lt90 hn1 (shK_lt (show shK 66 = _ from rfl))) rfl ?_
            refine n_iinc (pc := 114) (k := 1) (ls' := [(0, .ref 66), (1, .int w0), (2, .int w1), (3, .int w2), (4, .int w3), (5, .int w4), (6, .int (nI (k + 1))), (7, .int w0)]) dX5_append_114 rfl (by decide) (by decide) rfl ?_
            refine a_goto (pc := 117) (tgt := 23) dX5_append_117 (by decide) ?_
            refine a_drop (ls' := [(0, .ref 66), (1, .int w0), (2, .int w1), (3, .int w2), (4, .int w3), (5, .int w4), (6, .int (nI (k + 1)))]) (by simp) ?_
            exact ih (k + 1) _ (by omega) ((hf.sI (by simp)).sI (by simp)) (rd2 ⟨rfl, by omega⟩) (fun j h9 => by rw [rd1 (by omega), rd1 (by omega)]; exact hj j h9) (fun j h9 => by rw [rd1 (by omega), rd1 (by omega)]; exact ho j h9) (fun j h9 => by
                by_cases ej : j = k
                · rw [rd1 (by omega), rd2 ⟨rfl, by omega⟩, ej, ew]
                · rw [rd1 (by omega), rd1 (by omega)]; exact hw j (by omega)) (by omega)
    exact LP 21 0 H0 (by omega) Fr.refl b0.1 (fun _ _ => rfl) (fun _ _ => rfl) (fun j hj => absurd hj (by omega)) (by omega)
  · have e : oApp t w0 w1 w2 w3 w4 = _ := if_pos (by omega)
    refine a_iconst (pc := 18) (v := (-1)) dX5_append_18 (by decide) ?_
    exact a_ireturn (pc := 19) dX5_append_19 rfl rfl (⟨_, rfl, by rw [e]; rfl, by rw [e]; exact m0, f0.fm⟩)
