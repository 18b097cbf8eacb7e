/-! the class LetterCutsModel: load -/
def cf (fl : Nat → Nat) : Nat := fl 0 + fl 1 + fl 2 + fl 3
theorem cf_s {fl : Nat → Nat} {k : Nat} (hk : k < 4) (h : fl k = 0) : cf (flS fl k) = cf fl + 1 := by
  unfold cf flS
  rcases (by omega : k = 0 ∨ k = 1 ∨ k = 2 ∨ k = 3) with rfl | rfl | rfl | rfl
  · simp only [if_true, show (1 : Nat) ≠ 0 by omega, show (2 : Nat) ≠ 0 by omega, show (3 : Nat) ≠ 0 by omega, if_false]; omega
  · simp only [if_true, show (0 : Nat) ≠ 1 by omega, show (2 : Nat) ≠ 1 by omega, show (3 : Nat) ≠ 1 by omega, if_false]; omega
  · simp only [if_true, show (0 : Nat) ≠ 2 by omega, show (1 : Nat) ≠ 2 by omega, show (3 : Nat) ≠ 2 by omega, if_false]; omega
  · simp only [if_true, show (0 : Nat) ≠ 3 by omega, show (1 : Nat) ≠ 3 by omega, show (2 : Nat) ≠ 3 by omega, if_false]; omega
theorem pSt_cf {n : Nat} {Y : Nat → Int32} {z : PQZ} (h : (pSt n Y z).1.2.1 = 0) : cf (pSt n Y z).2.1 = cf z.2.1 + 1 := by
  have h0 := (pSc_0 h).1
  exact pSt_cases (P := fun u => u.1.2.1 = 0 → cf u.2.1 = cf z.2.1 + 1) (fun x hx hh _ => cf_s (by omega) hh.2) (fun hh _ => cf_s (by omega) hh.2) (fun hh _ => cf_s (by omega) hh.2) (fun e => absurd e (pF_ne (by decide))) h0
theorem pGo_stop {n : Nat} {Y : Nat → Int32} {z : PQZ} (h : ¬ (z.1.2.1 = 0 ∧ (pSp n Y z.1).1 < n)) : ∀ m, pGo n Y m z = z
  | 0 => rfl
  | m + 1 => cif_f h
theorem MM.ld {h h2 : AH} {t : ST} {off : Int32} (m : MM h t) (f : Fr [66, 69] h h2) (h1 : hI h2 66 2 = nI 0) (h7 : hI h2 66 7 = off) (h12 : hI h2 66 12 = hI h 66 12) : MM h2 (tLd t off) := by
  obtain ⟨c, g, r, ⟨b1, b2⟩, a7, a12, p⟩ := m
  exact ⟨c.fr f, ⟨g.1, Nat.zero_le _, g.2.2⟩, r.fr f (by simp), ⟨h1, fun j hj => absurd hj (Nat.not_lt_zero _)⟩, h7, h12.trans a12, fun i hi => (p i hi).fr f (by simp; omega)⟩
set_option maxHeartbeats 1500000 in
set_option maxRecDepth 100000 in
theorem s5_load {d : Nat} {h : AH} {t : ST} {x : Int32} (m : MM h t) : AC mX5_load (d + 300) 0 0 [.ref 66, .int x] h (Qm [eIA] (oLoad t x).1 (oLoad t x).2 h) := by
  have c := m.1
  have g := m.2.1.1
  have r := m.2.2.1
  have hn := c.1
  have gw := g.1
  have gh := g.2.1
  have gl := g.2.2.2.2.2.1
  have gc := cells48 g
  refine AC.of (by decide) rfl (Nat.le_of_ble_eq_true rfl) (fun X => ?_)
  show AW X mX5_load (d + 300) 0 0 0 [(0, .ref 66), (1, .int x)] [] h (Qm [eIA] (oLoad t x).1 (oLoad t x).2 h)
  refine a_aload_n (pc := 0) (i := 0) dX5_load_0 rfl rfl ?_
  refine a_iconst (pc := 1) (v := nI 0) dX5_load_1 (by decide) ?_
  refine a_putI (pc := 2) (ci := 5) (k := 0) dX5_load_2 (lf_RX5_64 rfl) (by decide) (Or.inl rfl) rfl (lt90 hn (shK_lt (show shK 66 = _ from rfl))) rfl ?_
  obtain ⟨H0, hH0⟩ : ∃ Hx, Hx = sI h 66 0 (nI 0) := ⟨_, rfl⟩
  have f0 : Fr [66] h H0 := by rw [hH0]; exact Fr.refl.sI (by simp)
  have k0 : ∀ j, j ≠ 0 → hI H0 66 j = hI h 66 j := fun j hj => by rw [hH0]; exact rd1 (by omega)
  have t0 : hI H0 66 0 = nI 0 := by rw [hH0]; exact rd2 ⟨rfl, rfl⟩
  refine a_heap (h' := H0) hH0.symm ?_
  have m0 : MM H0 t := m.scr f0 (by simp) (k0 2 (by omega)) (k0 7 (by omega)) (k0 12 (by omega))
  have c0 := m0.1
  have r0 := m0.2.2.1
  have hn0 := c0.1
  have b0 := m0.2.2.2.1
  have hb4 := m0.2.1.2.1
  have h8 := m0.2.1.2.2.1
  refine a_aload_n (pc := 5) (i := 0) dX5_load_5 rfl rfl ?_
  refine a_iload_n (pc := 6) (i := 1) dX5_load_6 rfl rfl ?_
  refine a_iconst (pc := 7) (v := nI 0) dX5_load_7 (by decide) ?_
  refine a_aload_n (pc := 8) (i := 0) dX5_load_8 rfl rfl ?_
  refine a_getI (pc := 9) (ci := 5) (k := 2) dX5_load_9 (lf_RX5_67 rfl) (by decide) rfl rfl (lt90 hn0 (shK_lt (show shK 66 = _ from rfl))) ?_
  refine a_top (show (.int (hI H0 66 2) : Value) = .int (nI (tB t)) from congrArg Value.int b0.1) ?_
  refine a_vS1 (pc := 12) (as := [.int x, .int (nI 0), .int (nI (tB t))]) (v := .int (bi (inB x (nI 0) (nI (tB t))))) (h' := H0) dX5_load_12 (lc_RX5_86 rfl) ceX5_in s5_in rfl rfl (Nat.le_of_ble_eq_true rfl) rfl ?_
  refine b_if_ne (pc := 15) (tgt := 22) dX5_load_15 (by decide) (fun c15 => ?_) (fun c15 => ?_)
  · obtain ⟨n, hn2, rfl⟩ := (inB_n (by omega) (by omega)).mp c15
    have e : oLoad t (nI n) = _ := cif_t ⟨n, hn2.2, rfl⟩
    rw [i2n_nI (by omega)] at e
    obtain ⟨Y, hY⟩ : ∃ Y, Y = tY t := ⟨_, rfl⟩
    rw [← hY] at e h8
    obtain ⟨R, hR⟩ : ∃ R, R = pRead n Y := ⟨_, rfl⟩
    have hE := pRead_E (n := n) (Y := Y)
    have hG := pRead_G (n := n) (Y := Y)
    rw [← hR] at e hE hG
    refine a_iconst (pc := 22) (v := nI 0) dX5_load_22 (by decide) ?_
    refine a_iconst (pc := 23) (v := nI 1) dX5_load_23 (by decide) ?_
    refine a_vV1 (pc := 24) (as := [.int (nI 0), .int (nI 1)]) (b := 66) (ci := 5) (v := .int (nI 0)) (h' := H0) dX5_load_24 (lc_RX5_156 rfl) ceX5_fails rfl (lt90 hn0 (shK_lt (show shK 66 = _ from rfl))) (s5_fails0 c0 t0) rfl rfl (Nat.le_of_ble_eq_true rfl) rfl ?_
    refine n_if_eq (pc := 27) (tgt := 32) dX5_load_27 (by decide) (by omega) (fun cz => ?_) (fun cz => ?_)
    · skip
      refine a_aload_n (pc := 32) (i := 0) dX5_load_32 rfl rfl ?_
      refine a_iconst (pc := 33) (v := nI 0) dX5_load_33 (by decide) ?_
      refine a_putI (pc := 34) (ci := 5) (k := 2) dX5_load_34 (lf_RX5_67 rfl) (by decide) (Or.inl rfl) rfl (lt90 hn0 (shK_lt (show shK 66 = _ from rfl))) rfl ?_
      refine a_aload_n (pc := 37) (i := 0) dX5_load_37 rfl rfl ?_
      refine a_iload_n (pc := 38) (i := 1) dX5_load_38 rfl rfl ?_
      refine a_putI (pc := 39) (ci := 5) (k := 3) dX5_load_39 (lf_RX5_70 rfl) (by decide) (Or.inl rfl) rfl (lt90 hn0 (shK_lt (show shK 66 = _ from rfl))) rfl ?_
      refine a_aload_n (pc := 42) (i := 0) dX5_load_42 rfl rfl ?_
      refine a_iconst (pc := 43) (v := nI 0) dX5_load_43 (by decide) ?_
      refine a_putI (pc := 44) (ci := 5) (k := 4) dX5_load_44 (lf_RX5_73 rfl) (by decide) (Or.inl rfl) rfl (lt90 hn0 (shK_lt (show shK 66 = _ from rfl))) rfl ?_
      refine a_aload_n (pc := 47) (i := 0) dX5_load_47 rfl rfl ?_
      refine a_iconst (pc := 48) (v := nI 0) dX5_load_48 (by decide) ?_
      refine a_putI (pc := 49) (ci := 5) (k := 5) dX5_load_49 (lf_RX5_80 rfl) (by decide) (Or.inl rfl) rfl (lt90 hn0 (shK_lt (show shK 66 = _ from rfl))) rfl ?_
      refine a_aload_n (pc := 52) (i := 0) dX5_load_52 rfl rfl ?_
      refine a_iconst (pc := 53) (v := (-1)) dX5_load_53 (by decide) ?_
      refine a_putI (pc := 54) (ci := 5) (k := 6) dX5_load_54 (lf_RX5_83 rfl) (by decide) (Or.inl rfl) rfl (lt90 hn0 (shK_lt (show shK 66 = _ from rfl))) rfl ?_
      refine a_aload_n (pc := 57) (i := 0) dX5_load_57 rfl rfl ?_
      refine a_iconst (pc := 58) (v := nI 0) dX5_load_58 (by decide) ?_
      refine a_putI (pc := 59) (ci := 5) (k := 14) dX5_load_59 (lf_RX5_123 rfl) (by decide) (Or.inl rfl) rfl (lt90 hn0 (shK_lt (show shK 66 = _ from rfl))) rfl ?_
      obtain ⟨H1, hH1⟩ : ∃ Hx, Hx = sI (sI (sI (sI (sI (sI H0 66 2 (nI 0)) 66 3 (nI n)) 66 4 (nI 0)) 66 5 (nI 0)) 66 6 ((-1))) 66 14 (nI 0) := ⟨_, rfl⟩
      have f1 : Fr [66, 69] H0 H1 := by rw [hH1]; exact ((((((Fr.refl.sI (by simp)).sI (by simp)).sI (by simp)).sI (by simp)).sI (by simp)).sI (by simp))
      have w2 : hI H1 66 2 = nI 0 := by rw [hH1]; simp (disch := omega) only [rd1, rd2]
      have w3 : hI H1 66 3 = nI n := by rw [hH1]; simp (disch := omega) only [rd1, rd2]
      have w4 : hI H1 66 4 = nI 0 := by rw [hH1]; simp (disch := omega) only [rd1, rd2]
      have w5 : hI H1 66 5 = nI 0 := by rw [hH1]; simp (disch := omega) only [rd1, rd2]
      have w6 : hI H1 66 6 = -1 := by rw [hH1]; simp (disch := omega) only [rd1, rd2]
      have w14 : hI H1 66 14 = nI 0 := by rw [hH1]; simp (disch := omega) only [rd1, rd2]
      have w0 : ∀ j, j ≠ 2 → j ≠ 3 → j ≠ 4 → j ≠ 5 → j ≠ 6 → j ≠ 14 → hI H1 66 j = hI H0 66 j := fun j _ _ _ _ _ _ => by rw [hH1]; simp (disch := omega) only [rd1]
      have x : TXm H1 n Y := ⟨⟨c0.fr f1, by omega, h8⟩, w3, fun j hj => by rw [(f1.2.2 67 (by simp)).1, hY]; exact b0.2 j (by omega)⟩
      refine a_heap (h' := H1) hH1.symm ?_
      have hn1 := x.1.1.1
      obtain ⟨q0, hq0⟩ : ∃ q0 : PS, q0 = (0, 0, -1) := ⟨_, rfl⟩
      have r0q : R5 H1 q0 := by rw [hq0]; exact ⟨w4, w5, w6⟩
      have ha0 : q0.1 ≤ n := by rw [hq0]; exact Nat.zero_le _
      have he0 : q0.2.1 = 0 := by rw [hq0]
      have hle := pSp_le (Y := Y) ha0
      have hR0 : R = pGo n Y 5 (pPage n Y q0, (fun _ => 0 : Nat → Nat), newS (pPw n Y q0) (pPh n Y q0)) := by rw [hR, hq0]; rfl
      have T134 : ∀ (H : AH) (ls : List (Nat × Value)), (∀ u ∈ [((0 : Nat), Value.ref 66)], u ∈ ls) → KU [66, 69] H1 H → (∃ q1, R5 H q1 ∧ q1.2 = R.1.2) → (R.1.2.1 = 0 → DM H 69 R.2.2) → AW X mX5_load (d + 300) 0 0 134 ls [] H (Qm [eIA] (oLoad t (nI n)).1 (oLoad t (nI n)).2 h) := by
        intro H ls hls ku hq hdm
        refine a_drop (ls' := [(0, .ref 66)]) hls ?_
        obtain ⟨q1, rq, sq⟩ := hq
        have xx := x.u ku (by simp)
        have hnx := xx.1.1.1
        refine a_aload_n (pc := 134) (i := 0) dX5_load_134 rfl rfl ?_
        refine a_aload_n (pc := 135) (i := 0) dX5_load_135 rfl rfl ?_
        refine a_getI (pc := 136) (ci := 5) (k := 6) dX5_load_136 (lf_RX5_83 rfl) (by decide) rfl rfl (lt90 hnx (shK_lt (show shK 66 = _ from rfl))) ?_
        refine a_top (show (.int (hI H 66 6) : Value) = .int R.1.2.2 from congrArg Value.int (rq.2.2.trans (congrArg Prod.snd sq))) ?_
        refine a_putI (pc := 139) (ci := 5) (k := 7) dX5_load_139 (lf_RX5_13 rfl) (by decide) (Or.inl rfl) rfl (lt90 hnx (shK_lt (show shK 66 = _ from rfl))) rfl ?_
        obtain ⟨H2, hH2⟩ : ∃ Hx, Hx = sI H 66 7 R.1.2.2 := ⟨_, rfl⟩
        have f2 : Fr [66, 69] H0 H2 := by rw [hH2]; exact (f1.trans ku.1).sI (by simp)
        have e5 : hI H2 66 5 = R.1.2.1 := by rw [hH2, rd1 (by omega)]; exact rq.2.1.trans (congrArg Prod.fst sq)
        have m2 : MM H2 (tLd t R.1.2.2) := m0.ld f2 (by rw [hH2, rd1 (by omega), ku.2 2 (by omega) (by omega) (by omega) (by omega) (by omega)]; exact w2) (by rw [hH2]; exact rd2 ⟨rfl, rfl⟩) (by rw [hH2, rd1 (by omega), ku.2 12 (by omega) (by omega) (by omega) (by omega) (by omega), w0 12 (by omega) (by omega) (by omega) (by omega) (by omega) (by omega)])
        have t2 : hI H2 66 0 = nI 0 := by rw [hH2, rd1 (by omega), ku.2 0 (by omega) (by omega) (by omega) (by omega) (by omega), w0 0 (by omega) (by omega) (by omega) (by omega) (by omega) (by omega)]; exact t0
        have fm2 : Fm h H2 := f0.fm.trans (f2.fm' (by simp))
        refine a_heap (h' := H2) hH2.symm ?_
        have c2 := m2.1
        have hn2b := c2.1
        refine a_aload_n (pc := 142) (i := 0) dX5_load_142 rfl rfl ?_
        refine a_vV1 (pc := 143) (as := []) (b := 66) (ci := 5) (v := .int (bi (R.1.2.1 = 0))) (h' := H2) dX5_load_143 (lc_RX5_90 rfl) ceX5_isGood rfl (lt90 hn2b (shK_lt (show shK 66 = _ from rfl))) (s5_isGood c2 e5) rfl rfl (Nat.le_of_ble_eq_true rfl) rfl ?_
        refine b_if_ne (pc := 146) (tgt := 154) dX5_load_146 (by decide) (fun c146 => ?_) (fun c146 => ?_)
        · have e9 := e.trans (cif_t c146)
          have d2 : DM H2 69 R.2.2 := (hdm c146).row (by rw [hH2]; funext j; rw [rd1 (by omega)])
          refine a_aload_n (pc := 154) (i := 0) dX5_load_154 rfl rfl ?_
          refine a_uV (pc := 155) (as := []) (b := 66) (ci := 5) dX5_load_155 (lc_RX5_165 rfl) ceX5_remember rfl (lt90 hn2b (shK_lt (show shK 66 = _ from rfl))) (s5_remember (d := d + 298) m2) rfl rfl (Nat.le_of_ble_eq_true rfl) (fun h2 y => y.2.1.1) (fun H3 y3 => ?_)
          obtain ⟨m3, f3, k3⟩ := y3
          have c3 := m3.1
          have hn3 := c3.1
          have d3 := d2.fr f3 (by simp)
          refine a_aload_n (pc := 158) (i := 0) dX5_load_158 rfl rfl ?_
          refine a_getR (pc := 159) (ci := 5) (k := 9) (b := 69) dX5_load_159 (lf_RX5_20 rfl) (by decide) rfl rfl (lt90 hn3 (shK_lt (show shK 66 = _ from rfl))) c3.2.2.2.2.2.2.2.2.1.2.2.1 ?_
          refine a_aload_n (pc := 162) (i := 0) dX5_load_162 rfl rfl ?_
          refine a_getR (pc := 163) (ci := 5) (k := 8) (b := 68) dX5_load_163 (lf_RX5_17 rfl) (by decide) rfl rfl (lt90 hn3 (shK_lt (show shK 66 = _ from rfl))) c3.2.2.2.2.2.2.2.2.1.2.1 ?_
          refine a_wS0 (pc := 166) (as := [.ref 69, .ref 68]) dX5_load_166 (lc_RX5_168 rfl) ceX5_copy (s5_copy (a := 69) (b := 68) hn3 rfl rfl (by decide)) rfl rfl (Nat.le_of_ble_eq_true rfl) (fun H4 f4 q4 => ?_)
          have c4 := c3.fr f4
          have hn4 := c4.1
          have d4 : DM H4 68 R.2.2 := DM_cp (hG c146) d3 q4
          have e66 : hI H4 66 = hI H3 66 := (f4.2.2 66 (by simp)).1
          refine a_aload_n (pc := 169) (i := 0) dX5_load_169 rfl rfl ?_
          refine a_vV1 (pc := 170) (as := []) (b := 66) (ci := 5) (v := .int (nI (sCells R.2.2))) (h' := H4) dX5_load_170 (lc_RX5_172 rfl) ceX5_cells rfl (lt90 hn4 (shK_lt (show shK 66 = _ from rfl))) (s5_cells c4 (hG c146) d4) rfl rfl (Nat.le_of_ble_eq_true rfl) rfl ?_
          exact a_ireturn (pc := 173) dX5_load_173 rfl rfl (⟨_, rfl, (fun w hw => by rw [e9] at hw; exact Value.int.inj (Option.some.inj (Sum.inl.inj hw))), by rw [e9]; show hI H4 66 0 = nI 0; rw [e66, k3 0 (by omega)]; exact t2, by rw [e9]; exact m3.cur f4 (by simp) (by rw [e66]) (by rw [e66]) (by rw [e66]) d4 (hG c146), (fm2.trans (f3.fm' (by simp))).trans (f4.fm' (by simp))⟩)
        · have e9 := e.trans (cif_f c146)
          refine a_aload_n (pc := 149) (i := 0) dX5_load_149 rfl rfl ?_
          refine a_getI (pc := 150) (ci := 5) (k := 5) dX5_load_150 (lf_RX5_80 rfl) (by decide) rfl rfl (lt90 hn2b (shK_lt (show shK 66 = _ from rfl))) ?_
          refine a_top (show (.int (hI H2 66 5) : Value) = .int R.1.2.1 from congrArg Value.int e5) ?_
          exact a_ireturn (pc := 153) dX5_load_153 rfl rfl (⟨_, rfl, (fun w hw => by rw [e9] at hw; exact Value.int.inj (Option.some.inj (Sum.inl.inj hw))), by rw [e9]; exact t2, by rw [e9]; exact m2, fm2⟩)
      have LP : ∀ (v : Nat) (z : PQZ) (H : AH) (ls : List (Nat × Value)), (∀ u ∈ [((0 : Nat), Value.ref 66)], u ∈ ls) → KU [66, 69] H1 H → (∃ q1, R5 H q1 ∧ Sm q1 z.1 ∧ q1.1 ≤ n) → z.1.1 ≤ n → pGo n Y v z = R → (∀ i, z.2.1 i ≤ 1) → (z.1.2.1 = 0 → v + cf z.2.1 = 5 ∧ hI H 66 14 = nI (sn z.2.1) ∧ DM H 69 z.2.2 ∧ GS z.2.2) → AW X mX5_load (d + 300) 0 0 112 ls [] H (Qm [eIA] (oLoad t (nI n)).1 (oLoad t (nI n)).2 h) := by
        intro v
        induction v with
        | zero =>
          intro z H ls hls ku hq hzn hgo hfl hz
          obtain ⟨q1, rq, sq, hq1⟩ := id hq
          refine a_drop (ls' := [(0, .ref 66)]) hls ?_
          have xx := x.u ku (by simp)
          have hnx := xx.1.1.1
          have e5 : hI H 66 5 = z.1.2.1 := rq.2.1.trans (congrArg Prod.fst sq.1)
          refine a_aload_n (pc := 112) (i := 0) dX5_load_112 rfl rfl ?_
          refine a_vV1 (pc := 113) (as := []) (b := 66) (ci := 5) (v := .int (bi (z.1.2.1 = 0))) (h' := H) dX5_load_113 (lc_RX5_90 rfl) ceX5_isGood rfl (lt90 hnx (shK_lt (show shK 66 = _ from rfl))) (s5_isGood xx.1.1 e5) rfl rfl (Nat.le_of_ble_eq_true rfl) rfl ?_
          refine b_if_eq (pc := 116) (tgt := 134) dX5_load_116 (by decide) (fun c116 => ?_) (fun c116 => ?_)
          · have ez : z = R := by rw [← hgo, pGo_stop (fun y => c116 y.1)]
            have sq2 := sq.1
            rw [ez] at sq2 c116
            exact T134 H _ (by simp) ku ⟨q1, rq, sq2⟩ (fun y => absurd y c116)
          · obtain ⟨hv5, h14, hdm, hgs⟩ := hz c116
            have h4 : cf z.2.1 ≤ 4 := by have := hfl 0; have := hfl 1; have := hfl 2; have := hfl 3; unfold cf; omega
            exact absurd hv5 (by omega)
        | succ v ih =>
          intro z H ls hls ku hq hzn hgo hfl hz
          obtain ⟨q1, rq, sq, hq1⟩ := id hq
          refine a_drop (ls' := [(0, .ref 66)]) hls ?_
          have xx := x.u ku (by simp)
          have hnx := xx.1.1.1
          have e5 : hI H 66 5 = z.1.2.1 := rq.2.1.trans (congrArg Prod.fst sq.1)
          refine a_aload_n (pc := 112) (i := 0) dX5_load_112 rfl rfl ?_
          refine a_vV1 (pc := 113) (as := []) (b := 66) (ci := 5) (v := .int (bi (z.1.2.1 = 0))) (h' := H) dX5_load_113 (lc_RX5_90 rfl) ceX5_isGood rfl (lt90 hnx (shK_lt (show shK 66 = _ from rfl))) (s5_isGood xx.1.1 e5) rfl rfl (Nat.le_of_ble_eq_true rfl) rfl ?_
          refine b_if_eq (pc := 116) (tgt := 134) dX5_load_116 (by decide) (fun c116 => ?_) (fun c116 => ?_)
          · have ez : z = R := by rw [← hgo, pGo_stop (fun y => c116 y.1)]
            have sq2 := sq.1
            rw [ez] at sq2 c116
            exact T134 H _ (by simp) ku ⟨q1, rq, sq2⟩ (fun y => absurd y c116)
          · obtain ⟨hv5, h14, hdm, hgs⟩ := hz c116
            have eq := sq.eq c116
            subst eq
            refine a_aload_n (pc := 119) (i := 0) dX5_load_119 rfl rfl ?_
            refine a_xV (pc := 120) (as := []) (b := 66) (ci := 5) dX5_load_120 (lc_RX5_94 rfl) ceX5_ahead rfl (lt90 hnx (shK_lt (show shK 66 = _ from rfl))) (s5_ahead (d := d + 298) xx rq.1 hzn) rfl rfl (Nat.le_of_ble_eq_true rfl) (fun b h2 y => y.2.1.1) (fun val H2 y2 => ?_)
            obtain ⟨ev, y2⟩ := y2
            have ev : val = bY n Y (pSp n Y z.1).1 := ev
            have x2 := xx.k y2.k (by simp)
            have hnx2 := x2.1.1.1
            have r2 : R5 H2 (pSp n Y z.1) := y2.r rq
            have ku2 : KU [66, 69] H1 H2 := ku.trans (y2.k.u (by simp))
            have hle2 := pSp_le (Y := Y) hzn
            refine a_iconst (pc := 123) (v := (-1)) dX5_load_123 (by decide) ?_
            refine a_icmp_eq (pc := 124) (tgt := 134) dX5_load_124 (by decide) (fun c124 => ?_) (fun c124 => ?_)
            · rw [ev, bY_m1 h8] at c124
              have ez : z = R := by rw [← hgo, pGo_stop (fun y => by have := y.2; omega)]
              have ez1 : z.1 = R.1 := by rw [ez]
              exact T134 H2 _ (by simp) ku2 ⟨_, r2, by rw [← ez1]; rfl⟩ (fun _ => by rw [← ez]; exact hdm.fr y2.1 (by simp))
            · rw [ev, bY_m1 h8] at c124
              obtain ⟨z2, hz2⟩ : ∃ z2, z2 = pSt n Y (pSp n Y z.1, z.2) := ⟨_, rfl⟩
              have hgo2 : pGo n Y v z2 = R := by rw [← hgo, hz2]; exact (cif_t (a := pGo n Y v (pSt n Y (pSp n Y z.1, z.2))) (b := z) (P := z.1.2.1 = 0 ∧ (pSp n Y z.1).1 < n) ⟨c116, by omega⟩).symm
              refine a_aload_n (pc := 127) (i := 0) dX5_load_127 rfl rfl ?_
              refine a_uV (pc := 128) (as := []) (b := 66) (ci := 5) dX5_load_128 (lc_RX5_162 rfl) ceX5_statement rfl (lt90 hnx2 (shK_lt (show shK 66 = _ from rfl))) (s5_statement (d := d + 293) (z := (pSp n Y z.1, z.2)) x2 r2 hle2.2 c116 pSp_id ((y2.2.2 14 (by omega)).trans h14) hfl (hdm.fr y2.1 (by simp)) hgs) rfl rfl (Nat.le_of_ble_eq_true rfl) (fun h2 y => y.1.1.1.1) (fun H3 y3 => ?_)
              obtain ⟨⟨ku3, q3⟩, z3⟩ := y3
              rw [← hz2] at q3 z3
              refine a_goto (pc := 131) (tgt := 112) dX5_load_131 (by decide) ?_
              exact ih z2 H3 _ (by simp) (ku2.trans ku3) q3 (by rw [hz2]; exact pSt_le (z := (pSp n Y z.1, z.2)) hle2.2) hgo2 (by rw [hz2]; exact pSt_f (z := (pSp n Y z.1, z.2)) hfl) (fun y => ⟨by have h9 := pSt_cf (n := n) (Y := Y) (z := (pSp n Y z.1, z.2)) (by rw [← hz2]; exact y); rw [← hz2] at h9; have h9 : cf z2.2.1 = cf z.2.1 + 1 := h9; omega, (z3 y).1, (z3 y).2, by rw [hz2]; exact pSt_G (z := (pSp n Y z.1, z.2)) hgs⟩)
      have T81 : ∀ (H : AH), KM [66] H1 H → (∃ q1, R5 H q1 ∧ Sm q1 (pPg3 n Y q0) ∧ q1.1 ≤ n) → AW X mX5_load (d + 300) 0 0 81 [(0, .ref 66), (1, .int (nI n))] [] H (Qm [eIA] (oLoad t (nI n)).1 (oLoad t (nI n)).2 h) := by
        intro H km hq
        obtain ⟨q1, rq, sq, hq1⟩ := hq
        have xx := x.k km (by simp)
        have hnx := xx.1.1.1
        refine a_aload_n (pc := 81) (i := 0) dX5_load_81 rfl rfl ?_
        refine a_iconst (pc := 82) (v := nI 1) dX5_load_82 (by decide) ?_
        refine a_bipush (pc := 83) (v := nI 8) dX5_load_83 (by decide) ?_
        refine a_xV (pc := 85) (as := [.int (nI 1), .int (nI 8)]) (b := 66) (ci := 5) dX5_load_85 (lc_RX5_147 rfl) ceX5_number rfl (lt90 hnx (shK_lt (show shK 66 = _ from rfl))) (s5_number (d := d + 297) (most := 8) xx rq hq1 sq (by omega)) rfl rfl (Nat.le_of_ble_eq_true rfl) (fun b h2 z => z.1.1.1.1) (fun v1 H2 z2 => ?_)
        obtain ⟨⟨km2, q2, rq2, sq2, hq2⟩, ⟨k1, hk1, ev1⟩, hv1⟩ := z2
        subst ev1
        have x2 := xx.k km2 (by simp)
        have hnx2 := x2.1.1.1
        refine a_istore_n (pc := 88) (i := 2) (ls' := [(0, .ref 66), (1, .int (nI n)), (2, .int (nI k1))]) dX5_load_88 rfl (by decide) rfl ?_
        refine a_aload_n (pc := 89) (i := 0) dX5_load_89 rfl rfl ?_
        refine a_iconst (pc := 90) (v := nI 1) dX5_load_90 (by decide) ?_
        refine a_bipush (pc := 91) (v := nI 6) dX5_load_91 (by decide) ?_
        refine a_xV (pc := 93) (as := [.int (nI 1), .int (nI 6)]) (b := 66) (ci := 5) dX5_load_93 (lc_RX5_147 rfl) ceX5_number rfl (lt90 hnx2 (shK_lt (show shK 66 = _ from rfl))) (s5_number (d := d + 297) (most := 6) x2 rq2 hq2 sq2 (by omega)) rfl rfl (Nat.le_of_ble_eq_true rfl) (fun b h2 z => z.1.1.1.1) (fun v2 H3 z3 => ?_)
        obtain ⟨⟨km3, q3, rq3, sq3, hq3⟩, ⟨k2, hk2, ev2⟩, hv2⟩ := z3
        subst ev2
        have x3 := x2.k km3 (by simp)
        have hnx3 := x3.1.1.1
        refine a_istore_n (pc := 96) (i := 3) (ls' := [(0, .ref 66), (1, .int (nI n)), (2, .int (nI k1)), (3, .int (nI k2))]) dX5_load_96 rfl (by decide) rfl ?_
        refine a_aload_n (pc := 97) (i := 0) dX5_load_97 rfl rfl ?_
        refine a_getR (pc := 98) (ci := 5) (k := 9) (b := 69) dX5_load_98 (lf_RX5_20 rfl) (by decide) rfl rfl (lt90 hnx3 (shK_lt (show shK 66 = _ from rfl))) x3.1.1.2.2.2.2.2.2.2.2.1.2.2.1 ?_
        refine a_iload_n (pc := 101) (i := 2) dX5_load_101 rfl rfl ?_
        refine a_iload_n (pc := 102) (i := 3) dX5_load_102 rfl rfl ?_
        refine a_wS0 (pc := 103) (as := [.ref 69, .int (nI k1), .int (nI k2)]) dX5_load_103 (lc_RX5_60 rfl) ceX5_laySheet (s5_laySheet (k := 69) (w := k1) (hh := k2) hnx3 rfl hk1 hk2) rfl rfl (Nat.le_of_ble_eq_true rfl) (fun H4 f4 d4 => ?_)
        have km4 : KM [69] H3 H4 := ⟨f4, fun j _ _ _ _ => by rw [(f4.2.2 66 (by simp)).1]⟩
        have x4 := x3.k km4 (by simp)
        have hnx4 := x4.1.1.1
        have r4 : R5 H4 q3 := ⟨by rw [(f4.2.2 66 (by simp)).1]; exact rq3.1, by rw [(f4.2.2 66 (by simp)).1]; exact rq3.2.1, by rw [(f4.2.2 66 (by simp)).1]; exact rq3.2.2⟩
        refine a_aload_n (pc := 106) (i := 0) dX5_load_106 rfl rfl ?_
        refine a_bipush (pc := 107) (v := nI 59) dX5_load_107 (by decide) ?_
        refine a_uV (pc := 109) (as := [.int (nI 59)]) (b := 66) (ci := 5) dX5_load_109 (lc_RX5_152 rfl) ceX5_expect rfl (lt90 hnx4 (shK_lt (show shK 66 = _ from rfl))) (s5_expect (d := d + 297) x4 r4 hq3 sq3) rfl rfl (Nat.le_of_ble_eq_true rfl) (fun h2 z => z.1.1.1) (fun H5 z5 => ?_)
        obtain ⟨km5, q5, rq5, sq5, hq5⟩ := z5
        have kall : KU [66, 69] H1 H5 := (((km.u (S2 := [66, 69]) (by simp)).trans (km2.u (by simp))).trans (km3.u (by simp))).trans ((km4.u (S2 := [66, 69]) (by simp)).trans (km5.u (by simp)))
        have k14 : hI H5 66 14 = nI 0 := by rw [km5.2 14 (by omega) (by omega) (by omega) (by omega), km4.2 14 (by omega) (by omega) (by omega) (by omega), km3.2 14 (by omega) (by omega) (by omega) (by omega), km2.2 14 (by omega) (by omega) (by omega) (by omega), km.2 14 (by omega) (by omega) (by omega) (by omega)]; exact w14
        have sq5 : Sm q5 (pPage n Y q0) := sq5
        exact LP 5 (pPage n Y q0, (fun _ => 0 : Nat → Nat), newS (pPw n Y q0) (pPh n Y q0)) H5 _ (by simp) kall ⟨q5, rq5, sq5, hq5⟩ (pPage_le ha0) hR0.symm (fun _ => Nat.zero_le _) (fun y => by
          have y : (pPage n Y q0).2.1 = 0 := y
          have h6 := (pSc_0 y).1
          have h7 := hv2 h6
          have h9 := hv1 (pN_0 h6).1
          have hpg := pPage_0 y
          have h10 := (nI_eq (by omega) (by have : pPw n Y q0 ≤ 8 := hpg.1.2; have e : pPw n Y q0 = (pNn n Y (pPg3 n Y q0)).2 := rfl; omega)).mp h9
          have h11 := (nI_eq (by omega) (by have : pPh n Y q0 ≤ 6 := hpg.2.2; have e : pPh n Y q0 = (pNn n Y (pN n Y 8 (pPg3 n Y q0))).2 := rfl; omega)).mp h7
          refine ⟨rfl, k14, ?_, GS_newS hpg.1 hpg.2⟩
          have d5 := d4.fr km5.1 (by simp)
          rw [h10, h11] at d5
          exact d5)
      refine a_aload_n (pc := 62) (i := 0) dX5_load_62 rfl rfl ?_
      refine a_ldcS (pc := 63) (i := 0) (tx := "page") dX5_load_63 (by decide) (by decide) ?_
      refine a_yV (pc := 65) (as := [.ref (1001 + 0)]) (b := 66) (ci := 5) dX5_load_65 (lc_RX5_137 rfl) ceX5_takeWord rfl (lt90 hn1 (shK_lt (show shK 66 = _ from rfl))) (s5_takeWord (d := d + 294) (i := 0) x r0q ha0 he0 (by omega)) rfl rfl (Nat.le_of_ble_eq_true rfl) (fun b h2 y => y.1.1.1) (fun bb H2 yy => ?_)
      obtain ⟨km2, bi2, bt2, bf2⟩ := yy
      have x2 := x.k km2 (by simp)
      have hnx2 := x2.1.1.1
      have hw2 := (pW_le (Y := Y) hle.2).2
      refine b_if_ne (pc := 68) (tgt := 81) dX5_load_68 (by decide) (fun c68 => ?_) (fun c68 => ?_)
      · skip
        exact T81 H2 km2 ⟨_, bt2 c68, by rw [show pPg3 n Y q0 = _ from cif_t (bi2.mp c68)]; exact Sm.refl, hw2⟩
      · have rr := bf2 c68
        refine a_aload_n (pc := 71) (i := 0) dX5_load_71 rfl rfl ?_
        refine a_bipush (pc := 72) (v := (-2)) dX5_load_72 (by decide) ?_
        refine a_aload_n (pc := 74) (i := 0) dX5_load_74 rfl rfl ?_
        refine a_getI (pc := 75) (ci := 5) (k := 4) dX5_load_75 (lf_RX5_73 rfl) (by decide) rfl rfl (lt90 hnx2 (shK_lt (show shK 66 = _ from rfl))) ?_
        refine a_top (show (.int (hI H2 66 4) : Value) = .int (nI ((pSp n Y q0).1)) from congrArg Value.int rr.1) ?_
        refine a_uV (pc := 78) (as := [.int ((-2)), .int (nI ((pSp n Y q0).1))]) (b := 66) (ci := 5) dX5_load_78 (lc_RX5_107 rfl) ceX5_report rfl (lt90 hnx2 (shK_lt (show shK 66 = _ from rfl))) (s5_report (d := d + 299) x2.1.1 rr) rfl rfl (Nat.le_of_ble_eq_true rfl) (fun h2 z => z.1.1.1) (fun H3 z => ?_)
        have hpf : (pF (pW n Y (pSp n Y q0)) (-2) (pSp n Y q0).1).2.1 ≠ 0 := pF_ne (by decide)
        exact T81 H3 (km2.trans z.1) ⟨_, z.2, by rw [show pPg3 n Y q0 = _ from cif_f (fun y => c68 (bi2.mpr y))]; exact Sm.of2 Sm.refl (by rw [pF_2 (q := pSp n Y q0) he0, pF_2 (q := pW n Y (pSp n Y q0)) he0]) hpf, by rw [pF_1]; exact hle.2⟩
    · exact absurd cz (by omega)
  · have e : oLoad t x = (.inr eIA, t) := cif_f (fun ⟨n, h1, h2⟩ => c15 ((inB_n (by omega) (by omega)).mpr ⟨n, by omega, h2⟩))
    refine a_iconst (pc := 18) (v := nI 1) dX5_load_18 (by decide) ?_
    refine a_goto (pc := 19) (tgt := 23) dX5_load_19 (by decide) ?_
    refine a_iconst (pc := 23) (v := nI 1) dX5_load_23 (by decide) ?_
    refine a_vV1 (pc := 24) (as := [.int (nI 1), .int (nI 1)]) (b := 66) (ci := 5) (v := .int (nI 1)) (h' := (sI H0 66 0 (nI 1))) dX5_load_24 (lc_RX5_156 rfl) ceX5_fails rfl (lt90 hn0 (shK_lt (show shK 66 = _ from rfl))) (s5_fails1 c0 t0 (by omega)) rfl rfl (Nat.le_of_ble_eq_true rfl) rfl ?_
    refine n_if_eq (pc := 27) (tgt := 32) dX5_load_27 (by decide) (by omega) (fun cz => ?_) (fun cz => ?_)
    · exact absurd cz (by omega)
    · skip
      refine a_iconst (pc := 30) (v := nI 0) dX5_load_30 (by decide) ?_
      exact a_ireturn (pc := 31) dX5_load_31 rfl rfl (⟨_, rfl, (fun w hw => by rw [e] at hw; cases hw), by rw [e, show kn [eIA] (.inr eIA) = 1 from by decide +kernel]; exact rd2 ⟨rfl, rfl⟩, by rw [e]; exact m0.scr (S := [66]) (Fr.refl.sI (by simp)) (by simp) (rd1 (by omega)) (rd1 (by omega)) (rd1 (by omega)), f0.fm.trans (Fr.fm (Fr.refl.sI (by simp)))⟩)
