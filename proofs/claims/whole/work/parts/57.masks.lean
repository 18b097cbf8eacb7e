/-! the class LetterCutsModel: its public methods, but for plans and loads -/
theorem inB_01 {x : Int32} : inB x (nI 0) (nI 1) ↔ (x = 0 ∨ x = 1) := by
  rw [inB_n (by omega) (by omega)]
  constructor
  · rintro ⟨n, h, rfl⟩
    rcases (by omega : n = 0 ∨ n = 1) with rfl | rfl
    · exact Or.inl rfl
    · exact Or.inr rfl
  · rintro (rfl | rfl)
    · exact ⟨0, by omega, rfl⟩
    · exact ⟨1, by omega, rfl⟩
theorem inB_c {x : Int32} {k : Nat} (h1 : 1 ≤ k) (h2 : k < 1000) : inB x (nI 0) (nI (k - 1)) ↔ ∃ n, n < k ∧ x = nI n := by
  rw [inB_n (by omega) (by omega)]
  exact ⟨fun ⟨n, h, e⟩ => ⟨n, by omega, e⟩, fun ⟨n, h, e⟩ => ⟨n, by omega, e⟩⟩
theorem inB_l {x : Int32} {k : Nat} (h2 : k < 1000) : inB x (nI 0) (nI k - nI 1) ↔ ∃ n, n < k ∧ x = nI n := by
  by_cases h : k = 0
  · subst h
    constructor
    · rintro ⟨h1, h3⟩
      obtain ⟨n, a, b, rfl⟩ := ge_n (by omega) h1
      refine absurd ?_ h3
      rw [show (nI 0 - nI 1 : Int32) = -1 from rfl, Int32.lt_iff_toInt_lt, nI_toInt a]
      have : (-1 : Int32).toInt = -1 := rfl
      omega
    · rintro ⟨n, hn, -⟩
      exact absurd hn (by omega)
  · rw [pk_sub (by omega)]
    exact inB_c (by omega) h2
theorem inB_out {x : Int32} {k : Nat} (h2 : k < 1000) (h : ¬ inB x (nI 0) (nI k)) : x.toInt < 0 ∨ (k : Int) < x.toInt := by
  refine Classical.byContradiction fun z => h ⟨fun z1 => z (Or.inl ?_), fun z1 => z (Or.inr ?_)⟩
  · rw [Int32.lt_iff_toInt_lt, nI_toInt (by omega)] at z1; exact z1
  · rw [Int32.lt_iff_toInt_lt, nI_toInt (by omega)] at z1; exact z1
theorem selO {α : Type} {w : Int32} {l : List α} {z : α} {k : Nat} (hl : l.length = k + 1) (h : w.toInt < 0 ∨ (k : Int) < w.toInt) : sel w l z = z := sel_out (by rw [hl]; omega)
theorem inB_not {x : Int32} {a b : Nat} (hb : b < 1000) (ha : a < 1000) (h : ¬ inB x (nI a) (nI b)) : ¬ ∃ n, (a ≤ n ∧ n ≤ b) ∧ x = nI n := fun z => h ((inB_n (by omega) ha).mpr z)
theorem plOk_mq {s : SH} (g : GS s) {x y : Int32} (h : plOk s x y) : ∃ i n, (i < 2 ∧ n < sCells s) ∧ x = nI i ∧ y = nI n ∧ spt s x y = mq s i n := by
  obtain ⟨hx, n, hn, rfl⟩ := h
  have gc := cells48 g
  rcases hx with rfl | rfl
  · exact ⟨0, n, ⟨by omega, hn⟩, rfl, rfl, spt_n (i := 0) (by omega) (by omega)⟩
  · exact ⟨1, n, ⟨by omega, hn⟩, rfl, rfl, spt_n (i := 1) (by omega) (by omega)⟩
set_option maxHeartbeats 1500000 in
set_option maxRecDepth 100000 in
theorem s5_noPlace0 {d : Nat} {x y : Int32} {h : AH} {s : SH} (c : CB h) (g : GS s) (r : DM h 68 s) (t0 : hI h 66 0 = nI 0) (ho : plOk s x y) : AC mX5_noPlace (d + 1) 0 0 [.ref 66, .int x, .int y] h (Qe (some (.int (nI 0))) h) := by
  have hn := c.1
  have gw := g.1
  have gh := g.2.1
  have gl := g.2.2.2.2.2.1
  have gc := cells48 g
  refine AC.of (by decide) rfl (Nat.le_of_ble_eq_true rfl) (fun X => ?_)
  show AW X mX5_noPlace (d + 1) 0 0 0 [(0, .ref 66), (1, .int x), (2, .int y)] [] h (Qe (some (.int (nI 0))) h)
  refine a_aload_n (pc := 0) (i := 0) dX5_noPlace_0 rfl rfl ?_
  refine a_iload_n (pc := 1) (i := 1) dX5_noPlace_1 rfl rfl ?_
  refine a_iconst (pc := 2) (v := nI 0) dX5_noPlace_2 (by decide) ?_
  refine a_iconst (pc := 3) (v := nI 1) dX5_noPlace_3 (by decide) ?_
  refine a_vS1 (pc := 4) (as := [.int x, .int (nI 0), .int (nI 1)]) (v := .int (bi (inB x (nI 0) (nI 1)))) (h' := h) dX5_noPlace_4 (lc_RX5_86 rfl) ceX5_in s5_in rfl rfl (Nat.le_of_ble_eq_true rfl) rfl ?_
  refine b_if_eq (pc := 7) (tgt := 24) dX5_noPlace_7 (by decide) (fun c7 => ?_) (fun c7 => ?_)
  · skip
    exact absurd ho (fun z => c7 (inB_01.mpr z.1))
  · skip
    refine a_iload_n (pc := 10) (i := 2) dX5_noPlace_10 rfl rfl ?_
    refine a_iconst (pc := 11) (v := nI 0) dX5_noPlace_11 (by decide) ?_
    refine a_aload_n (pc := 12) (i := 0) dX5_noPlace_12 rfl rfl ?_
    refine a_vV1 (pc := 13) (as := []) (b := 66) (ci := 5) (v := .int (nI (sCells s))) (h' := h) dX5_noPlace_13 (lc_RX5_172 rfl) ceX5_cells rfl (lt90 hn (shK_lt (show shK 66 = _ from rfl))) (s5_cells c g r) rfl rfl (Nat.le_of_ble_eq_true rfl) rfl ?_
    refine a_iconst (pc := 16) (v := nI 1) dX5_noPlace_16 (by decide) ?_
    refine n_isub (pc := 17) dX5_noPlace_17 (by omega) ?_
    refine a_vS1 (pc := 18) (as := [.int y, .int (nI 0), .int (nI ((sCells s) - 1))]) (v := .int (bi (inB y (nI 0) (nI (sCells s - 1))))) (h' := h) dX5_noPlace_18 (lc_RX5_86 rfl) ceX5_in s5_in rfl rfl (Nat.le_of_ble_eq_true rfl) rfl ?_
    refine b_if_ne (pc := 21) (tgt := 28) dX5_noPlace_21 (by decide) (fun c21 => ?_) (fun c21 => ?_)
    · skip
      refine a_iconst (pc := 28) (v := nI 0) dX5_noPlace_28 (by decide) ?_
      refine a_iconst (pc := 29) (v := nI 1) dX5_noPlace_29 (by decide) ?_
      refine a_vV1 (pc := 30) (as := [.int (nI 0), .int (nI 1)]) (b := 66) (ci := 5) (v := .int (nI 0)) (h' := h) dX5_noPlace_30 (lc_RX5_156 rfl) ceX5_fails rfl (lt90 hn (shK_lt (show shK 66 = _ from rfl))) (s5_fails0 c t0) rfl rfl (Nat.le_of_ble_eq_true rfl) rfl ?_
      exact a_ireturn (pc := 33) dX5_noPlace_33 rfl rfl (⟨rfl, rfl⟩)
    · skip
      exact absurd ho (fun z => c21 ((inB_c gc.1 (by omega)).mpr z.2))
set_option maxHeartbeats 1500000 in
set_option maxRecDepth 100000 in
theorem s5_noPlace1 {d : Nat} {x y : Int32} {h : AH} {s : SH} (c : CB h) (g : GS s) (r : DM h 68 s) (t0 : hI h 66 0 = nI 0) (ho : ¬ plOk s x y) : AC mX5_noPlace (d + 1) 0 0 [.ref 66, .int x, .int y] h (Qe (some (.int (nI 1))) (sI h 66 0 (nI 1))) := by
  have hn := c.1
  have gw := g.1
  have gh := g.2.1
  have gl := g.2.2.2.2.2.1
  have gc := cells48 g
  refine AC.of (by decide) rfl (Nat.le_of_ble_eq_true rfl) (fun X => ?_)
  show AW X mX5_noPlace (d + 1) 0 0 0 [(0, .ref 66), (1, .int x), (2, .int y)] [] h (Qe (some (.int (nI 1))) (sI h 66 0 (nI 1)))
  refine a_aload_n (pc := 0) (i := 0) dX5_noPlace_0 rfl rfl ?_
  refine a_iload_n (pc := 1) (i := 1) dX5_noPlace_1 rfl rfl ?_
  refine a_iconst (pc := 2) (v := nI 0) dX5_noPlace_2 (by decide) ?_
  refine a_iconst (pc := 3) (v := nI 1) dX5_noPlace_3 (by decide) ?_
  refine a_vS1 (pc := 4) (as := [.int x, .int (nI 0), .int (nI 1)]) (v := .int (bi (inB x (nI 0) (nI 1)))) (h' := h) dX5_noPlace_4 (lc_RX5_86 rfl) ceX5_in s5_in rfl rfl (Nat.le_of_ble_eq_true rfl) rfl ?_
  refine b_if_eq (pc := 7) (tgt := 24) dX5_noPlace_7 (by decide) (fun c7 => ?_) (fun c7 => ?_)
  · skip
    refine a_iconst (pc := 24) (v := nI 1) dX5_noPlace_24 (by decide) ?_
    refine a_goto (pc := 25) (tgt := 29) dX5_noPlace_25 (by decide) ?_
    refine a_iconst (pc := 29) (v := nI 1) dX5_noPlace_29 (by decide) ?_
    refine a_vV1 (pc := 30) (as := [.int (nI 1), .int (nI 1)]) (b := 66) (ci := 5) (v := .int (nI 1)) (h' := (sI h 66 0 (nI 1))) dX5_noPlace_30 (lc_RX5_156 rfl) ceX5_fails rfl (lt90 hn (shK_lt (show shK 66 = _ from rfl))) (s5_fails1 c t0 (by omega)) rfl rfl (Nat.le_of_ble_eq_true rfl) rfl ?_
    exact a_ireturn (pc := 33) dX5_noPlace_33 rfl rfl (⟨rfl, rfl⟩)
  · skip
    refine a_iload_n (pc := 10) (i := 2) dX5_noPlace_10 rfl rfl ?_
    refine a_iconst (pc := 11) (v := nI 0) dX5_noPlace_11 (by decide) ?_
    refine a_aload_n (pc := 12) (i := 0) dX5_noPlace_12 rfl rfl ?_
    refine a_vV1 (pc := 13) (as := []) (b := 66) (ci := 5) (v := .int (nI (sCells s))) (h' := h) dX5_noPlace_13 (lc_RX5_172 rfl) ceX5_cells rfl (lt90 hn (shK_lt (show shK 66 = _ from rfl))) (s5_cells c g r) rfl rfl (Nat.le_of_ble_eq_true rfl) rfl ?_
    refine a_iconst (pc := 16) (v := nI 1) dX5_noPlace_16 (by decide) ?_
    refine n_isub (pc := 17) dX5_noPlace_17 (by omega) ?_
    refine a_vS1 (pc := 18) (as := [.int y, .int (nI 0), .int (nI ((sCells s) - 1))]) (v := .int (bi (inB y (nI 0) (nI (sCells s - 1))))) (h' := h) dX5_noPlace_18 (lc_RX5_86 rfl) ceX5_in s5_in rfl rfl (Nat.le_of_ble_eq_true rfl) rfl ?_
    refine b_if_ne (pc := 21) (tgt := 28) dX5_noPlace_21 (by decide) (fun c21 => ?_) (fun c21 => ?_)
    · skip
      exact absurd ⟨inB_01.mp c7, (inB_c gc.1 (by omega)).mp c21⟩ ho
    · skip
      refine a_iconst (pc := 24) (v := nI 1) dX5_noPlace_24 (by decide) ?_
      refine a_goto (pc := 25) (tgt := 29) dX5_noPlace_25 (by decide) ?_
      refine a_iconst (pc := 29) (v := nI 1) dX5_noPlace_29 (by decide) ?_
      refine a_vV1 (pc := 30) (as := [.int (nI 1), .int (nI 1)]) (b := 66) (ci := 5) (v := .int (nI 1)) (h' := (sI h 66 0 (nI 1))) dX5_noPlace_30 (lc_RX5_156 rfl) ceX5_fails rfl (lt90 hn (shK_lt (show shK 66 = _ from rfl))) (s5_fails1 c t0 (by omega)) rfl rfl (Nat.le_of_ble_eq_true rfl) rfl ?_
      exact a_ireturn (pc := 33) dX5_noPlace_33 rfl rfl (⟨rfl, rfl⟩)
theorem rState_in {s : SH} {k : Nat} (hk : k < 8) : rState s (nI k) = .inl (some (.int (stV s k))) := by
  unfold rState
  rw [sel_in (by omega)]
  rcases (by omega : k = 0 ∨ k = 1 ∨ k = 2 ∨ k = 3 ∨ k = 4 ∨ k = 5 ∨ k = 6 ∨ k = 7) with rfl | rfl | rfl | rfl | rfl | rfl | rfl | rfl <;> rfl
theorem rPlace_in {s : SH} {x y : Int32} {k : Nat} (hk : k < 5) (ho : plOk s x y) : rPlace s x y (nI k) = .inl (some (.int ((plL s (spt s x y)).getD k 0))) := by
  unfold rPlace
  rw [cif_t ho, sel_in (by omega)]
  rcases (by omega : k = 0 ∨ k = 1 ∨ k = 2 ∨ k = 3 ∨ k = 4) with rfl | rfl | rfl | rfl | rfl <;> rfl
set_option maxHeartbeats 1500000 in
set_option maxRecDepth 100000 in
theorem s5_state {d : Nat} {h : AH} {t : ST} {w : Int32} (m : MM h t) : AC mX5_state (d + 300) 0 0 [.ref 66, .int w] h (Qm [eIA] (rState (tC t) w) t h) := by
  have c := m.1
  have g := m.2.1.1
  have r := m.2.2.1
  have hn := c.1
  have gw := g.1
  have gh := g.2.1
  have gl := g.2.2.2.2.2.1
  have gc := cells48 g
  refine AC.of (by decide) rfl (Nat.le_of_ble_eq_true rfl) (fun X => ?_)
  show AW X mX5_state (d + 300) 0 0 0 [(0, .ref 66), (1, .int w)] [] h (Qm [eIA] (rState (tC t) w) t h)
  refine a_aload_n (pc := 0) (i := 0) dX5_state_0 rfl rfl ?_
  refine a_iconst (pc := 1) (v := nI 0) dX5_state_1 (by decide) ?_
  refine a_putI (pc := 2) (ci := 5) (k := 0) dX5_state_2 (lf_RX5_64 rfl) (by decide) (Or.inl rfl) rfl (lt90 hn (shK_lt (show shK 66 = _ from rfl))) rfl ?_
  obtain ⟨H0, hH0⟩ : ∃ Hx, Hx = sI h 66 0 (nI 0) := ⟨_, rfl⟩
  have f0 : Fr [66] h H0 := by rw [hH0]; exact Fr.refl.sI (by simp)
  have k0 : ∀ j, j ≠ 0 → hI H0 66 j = hI h 66 j := fun j hj => by rw [hH0]; exact rd1 (by omega)
  have t0 : hI H0 66 0 = nI 0 := by rw [hH0]; exact rd2 ⟨rfl, rfl⟩
  refine a_heap (h' := H0) hH0.symm ?_
  have m0 : MM H0 t := m.scr f0 (by simp) (k0 2 (by omega)) (k0 7 (by omega)) (k0 12 (by omega))
  have c0 := m0.1
  have r0 := m0.2.2.1
  have hn0 := c0.1
  refine a_aload_n (pc := 5) (i := 0) dX5_state_5 rfl rfl ?_
  refine a_iload_n (pc := 6) (i := 1) dX5_state_6 rfl rfl ?_
  refine a_iconst (pc := 7) (v := nI 0) dX5_state_7 (by decide) ?_
  refine a_bipush (pc := 8) (v := nI 7) dX5_state_8 (by decide) ?_
  refine a_vS1 (pc := 10) (as := [.int w, .int (nI 0), .int (nI 7)]) (v := .int (bi (inB w (nI 0) (nI 7)))) (h' := H0) dX5_state_10 (lc_RX5_86 rfl) ceX5_in s5_in rfl rfl (Nat.le_of_ble_eq_true rfl) rfl ?_
  refine b_if_ne (pc := 13) (tgt := 20) dX5_state_13 (by decide) (fun c13 => ?_) (fun c13 => ?_)
  · obtain ⟨k, hk, rfl⟩ := (inB_n (by omega) (by omega)).mp c13
    have e := rState_in (s := tC t) (k := k) (by omega)
    refine a_iconst (pc := 20) (v := nI 0) dX5_state_20 (by decide) ?_
    refine a_iconst (pc := 21) (v := nI 1) dX5_state_21 (by decide) ?_
    refine a_vV1 (pc := 22) (as := [.int (nI 0), .int (nI 1)]) (b := 66) (ci := 5) (v := .int (nI 0)) (h' := H0) dX5_state_22 (lc_RX5_156 rfl) ceX5_fails rfl (lt90 hn0 (shK_lt (show shK 66 = _ from rfl))) (s5_fails0 c0 t0) rfl rfl (Nat.le_of_ble_eq_true rfl) rfl ?_
    refine n_if_eq (pc := 25) (tgt := 32) dX5_state_25 (by decide) (by omega) (fun cz => ?_) (fun cz => ?_)
    · skip
      refine a_aload_n (pc := 32) (i := 0) dX5_state_32 rfl rfl ?_
      refine a_iload_n (pc := 33) (i := 1) dX5_state_33 rfl rfl ?_
      refine a_vV1 (pc := 34) (as := [.int (nI k)]) (b := 66) (ci := 5) (v := .int (stV (tC t) k)) (h' := H0) dX5_state_34 (lc_RX5_263 rfl) ceX5_told rfl (lt90 hn0 (shK_lt (show shK 66 = _ from rfl))) (s5_told (d := d + 294) c0 g r0 (by omega)) rfl rfl (Nat.le_of_ble_eq_true rfl) rfl ?_
      exact a_ireturn (pc := 37) dX5_state_37 rfl rfl (⟨_, rfl, (fun w hw => by rw [e] at hw; cases hw; rfl), by rw [e]; exact t0, m0, f0.fm⟩)
    · exact absurd cz (by omega)
  · have e : rState (tC t) w = .inr eIA := selO (k := 7) rfl (inB_out (by omega) c13)
    refine a_iconst (pc := 16) (v := nI 1) dX5_state_16 (by decide) ?_
    refine a_goto (pc := 17) (tgt := 21) dX5_state_17 (by decide) ?_
    refine a_iconst (pc := 21) (v := nI 1) dX5_state_21 (by decide) ?_
    refine a_vV1 (pc := 22) (as := [.int (nI 1), .int (nI 1)]) (b := 66) (ci := 5) (v := .int (nI 1)) (h' := (sI H0 66 0 (nI 1))) dX5_state_22 (lc_RX5_156 rfl) ceX5_fails rfl (lt90 hn0 (shK_lt (show shK 66 = _ from rfl))) (s5_fails1 c0 t0 (by omega)) rfl rfl (Nat.le_of_ble_eq_true rfl) rfl ?_
    refine n_if_eq (pc := 25) (tgt := 32) dX5_state_25 (by decide) (by omega) (fun cz => ?_) (fun cz => ?_)
    · exact absurd cz (by omega)
    · skip
      refine a_iconst (pc := 28) (v := nI 0) dX5_state_28 (by decide) ?_
      refine a_goto (pc := 29) (tgt := 37) dX5_state_29 (by decide) ?_
      exact a_ireturn (pc := 37) dX5_state_37 rfl rfl (⟨_, rfl, (fun w hw => by rw [e] at hw; cases hw), by rw [e, show kn [eIA] (.inr eIA) = 1 from by decide +kernel]; exact rd2 ⟨rfl, rfl⟩, m0.scr (S := [66]) (Fr.refl.sI (by simp)) (by simp) (rd1 (by omega)) (rd1 (by omega)) (rd1 (by omega)), f0.fm.trans (Fr.fm (Fr.refl.sI (by simp)))⟩)
set_option maxHeartbeats 1500000 in
set_option maxRecDepth 100000 in
theorem s5_letter {d : Nat} {h : AH} {t : ST} {x y : Int32} (m : MM h t) : AC mX5_letter (d + 300) 0 0 [.ref 66, .int x, .int y] h (Qm [eIO] (rLetter (tC t) x y) t h) := by
  have c := m.1
  have g := m.2.1.1
  have r := m.2.2.1
  have hn := c.1
  have gw := g.1
  have gh := g.2.1
  have gl := g.2.2.2.2.2.1
  have gc := cells48 g
  refine AC.of (by decide) rfl (Nat.le_of_ble_eq_true rfl) (fun X => ?_)
  show AW X mX5_letter (d + 300) 0 0 0 [(0, .ref 66), (1, .int x), (2, .int y)] [] h (Qm [eIO] (rLetter (tC t) x y) t h)
  refine a_aload_n (pc := 0) (i := 0) dX5_letter_0 rfl rfl ?_
  refine a_iconst (pc := 1) (v := nI 0) dX5_letter_1 (by decide) ?_
  refine a_putI (pc := 2) (ci := 5) (k := 0) dX5_letter_2 (lf_RX5_64 rfl) (by decide) (Or.inl rfl) rfl (lt90 hn (shK_lt (show shK 66 = _ from rfl))) rfl ?_
  obtain ⟨H0, hH0⟩ : ∃ Hx, Hx = sI h 66 0 (nI 0) := ⟨_, rfl⟩
  have f0 : Fr [66] h H0 := by rw [hH0]; exact Fr.refl.sI (by simp)
  have k0 : ∀ j, j ≠ 0 → hI H0 66 j = hI h 66 j := fun j hj => by rw [hH0]; exact rd1 (by omega)
  have t0 : hI H0 66 0 = nI 0 := by rw [hH0]; exact rd2 ⟨rfl, rfl⟩
  refine a_heap (h' := H0) hH0.symm ?_
  have m0 : MM H0 t := m.scr f0 (by simp) (k0 2 (by omega)) (k0 7 (by omega)) (k0 12 (by omega))
  have c0 := m0.1
  have r0 := m0.2.2.1
  have hn0 := c0.1
  rcases Classical.em (plOk (tC t) x y) with ho | ho
  · skip
    refine a_aload_n (pc := 5) (i := 0) dX5_letter_5 rfl rfl ?_
    refine a_iload_n (pc := 6) (i := 1) dX5_letter_6 rfl rfl ?_
    refine a_iload_n (pc := 7) (i := 2) dX5_letter_7 rfl rfl ?_
    refine a_vV1 (pc := 8) (as := [.int x, .int y]) (b := 66) (ci := 5) (v := .int (nI 0)) (h' := H0) dX5_letter_8 (lc_RX5_266 rfl) ceX5_noPlace rfl (lt90 hn0 (shK_lt (show shK 66 = _ from rfl))) (s5_noPlace0 (d := d + 298) c0 g r0 t0 ho) rfl rfl (Nat.le_of_ble_eq_true rfl) rfl ?_
    refine n_if_eq (pc := 11) (tgt := 18) dX5_letter_11 (by decide) (by omega) (fun cz => ?_) (fun cz => ?_)
    · skip
      obtain ⟨i, n, ⟨hi, hn2⟩, rfl, rfl, es⟩ := plOk_mq g ho
      have e : rLetter (tC t) (nI i) (nI n) = .inl (some (.int (flet (tC t) (mq (tC t) i n)))) := by rw [← es]; exact cif_t ho
      refine a_aload_n (pc := 18) (i := 0) dX5_letter_18 rfl rfl ?_
      refine a_iload_n (pc := 19) (i := 1) dX5_letter_19 rfl rfl ?_
      refine a_iload_n (pc := 20) (i := 2) dX5_letter_20 rfl rfl ?_
      refine a_vV1 (pc := 21) (as := [.int (nI i), .int (nI n)]) (b := 66) (ci := 5) (v := .int (flet (tC t) (mq (tC t) i n))) (h' := H0) dX5_letter_21 (lc_RX5_269 rfl) ceX5_toldLetter rfl (lt90 hn0 (shK_lt (show shK 66 = _ from rfl))) (s5_toldLetter (d := d + 296) c0 g r0 hi hn2) rfl rfl (Nat.le_of_ble_eq_true rfl) rfl ?_
      exact a_ireturn (pc := 24) dX5_letter_24 rfl rfl (⟨_, rfl, (fun w hw => by rw [e] at hw; cases hw; rfl), by rw [e]; exact t0, m0, f0.fm⟩)
    · exact absurd cz (by omega)
  · have e : rLetter (tC t) x y = .inr eIO := cif_f ho
    refine a_aload_n (pc := 5) (i := 0) dX5_letter_5 rfl rfl ?_
    refine a_iload_n (pc := 6) (i := 1) dX5_letter_6 rfl rfl ?_
    refine a_iload_n (pc := 7) (i := 2) dX5_letter_7 rfl rfl ?_
    refine a_vV1 (pc := 8) (as := [.int x, .int y]) (b := 66) (ci := 5) (v := .int (nI 1)) (h' := (sI H0 66 0 (nI 1))) dX5_letter_8 (lc_RX5_266 rfl) ceX5_noPlace rfl (lt90 hn0 (shK_lt (show shK 66 = _ from rfl))) (s5_noPlace1 (d := d + 298) c0 g r0 t0 ho) rfl rfl (Nat.le_of_ble_eq_true rfl) rfl ?_
    refine n_if_eq (pc := 11) (tgt := 18) dX5_letter_11 (by decide) (by omega) (fun cz => ?_) (fun cz => ?_)
    · exact absurd cz (by omega)
    · skip
      refine a_iconst (pc := 14) (v := nI 0) dX5_letter_14 (by decide) ?_
      refine a_goto (pc := 15) (tgt := 24) dX5_letter_15 (by decide) ?_
      exact a_ireturn (pc := 24) dX5_letter_24 rfl rfl (⟨_, rfl, (fun w hw => by rw [e] at hw; cases hw), by rw [e, show kn [eIO] (.inr eIO) = 1 from by decide +kernel]; exact rd2 ⟨rfl, rfl⟩, m0.scr (S := [66]) (Fr.refl.sI (by simp)) (by simp) (rd1 (by omega)) (rd1 (by omega)) (rd1 (by omega)), f0.fm.trans (Fr.fm (Fr.refl.sI (by simp)))⟩)
set_option maxHeartbeats 1500000 in
set_option maxRecDepth 100000 in
theorem s5_place {d : Nat} {h : AH} {t : ST} {x y w : Int32} (m : MM h t) : AC mX5_place (d + 300) 0 0 [.ref 66, .int x, .int y, .int w] h (Qm [eIO, eIA] (rPlace (tC t) x y w) t h) := by
  have c := m.1
  have g := m.2.1.1
  have r := m.2.2.1
  have hn := c.1
  have gw := g.1
  have gh := g.2.1
  have gl := g.2.2.2.2.2.1
  have gc := cells48 g
  refine AC.of (by decide) rfl (Nat.le_of_ble_eq_true rfl) (fun X => ?_)
  show AW X mX5_place (d + 300) 0 0 0 [(0, .ref 66), (1, .int x), (2, .int y), (3, .int w)] [] h (Qm [eIO, eIA] (rPlace (tC t) x y w) t h)
  refine a_aload_n (pc := 0) (i := 0) dX5_place_0 rfl rfl ?_
  refine a_iconst (pc := 1) (v := nI 0) dX5_place_1 (by decide) ?_
  refine a_putI (pc := 2) (ci := 5) (k := 0) dX5_place_2 (lf_RX5_64 rfl) (by decide) (Or.inl rfl) rfl (lt90 hn (shK_lt (show shK 66 = _ from rfl))) rfl ?_
  obtain ⟨H0, hH0⟩ : ∃ Hx, Hx = sI h 66 0 (nI 0) := ⟨_, rfl⟩
  have f0 : Fr [66] h H0 := by rw [hH0]; exact Fr.refl.sI (by simp)
  have k0 : ∀ j, j ≠ 0 → hI H0 66 j = hI h 66 j := fun j hj => by rw [hH0]; exact rd1 (by omega)
  have t0 : hI H0 66 0 = nI 0 := by rw [hH0]; exact rd2 ⟨rfl, rfl⟩
  refine a_heap (h' := H0) hH0.symm ?_
  have m0 : MM H0 t := m.scr f0 (by simp) (k0 2 (by omega)) (k0 7 (by omega)) (k0 12 (by omega))
  have c0 := m0.1
  have r0 := m0.2.2.1
  have hn0 := c0.1
  rcases Classical.em (plOk (tC t) x y) with ho | ho
  · skip
    refine a_aload_n (pc := 5) (i := 0) dX5_place_5 rfl rfl ?_
    refine a_iload_n (pc := 6) (i := 1) dX5_place_6 rfl rfl ?_
    refine a_iload_n (pc := 7) (i := 2) dX5_place_7 rfl rfl ?_
    refine a_vV1 (pc := 8) (as := [.int x, .int y]) (b := 66) (ci := 5) (v := .int (nI 0)) (h' := H0) dX5_place_8 (lc_RX5_266 rfl) ceX5_noPlace rfl (lt90 hn0 (shK_lt (show shK 66 = _ from rfl))) (s5_noPlace0 (d := d + 298) c0 g r0 t0 ho) rfl rfl (Nat.le_of_ble_eq_true rfl) rfl ?_
    refine n_if_ne (pc := 11) (tgt := 36) dX5_place_11 (by decide) (by omega) (fun cz => ?_) (fun cz => ?_)
    · exact absurd cz (by omega)
    · skip
      refine a_aload_n (pc := 14) (i := 0) dX5_place_14 rfl rfl ?_
      refine a_iload_n (pc := 15) (i := 3) dX5_place_15 rfl rfl ?_
      refine a_iconst (pc := 16) (v := nI 0) dX5_place_16 (by decide) ?_
      refine a_iconst (pc := 17) (v := nI 4) dX5_place_17 (by decide) ?_
      refine a_vS1 (pc := 18) (as := [.int w, .int (nI 0), .int (nI 4)]) (v := .int (bi (inB w (nI 0) (nI 4)))) (h' := H0) dX5_place_18 (lc_RX5_86 rfl) ceX5_in s5_in rfl rfl (Nat.le_of_ble_eq_true rfl) rfl ?_
      refine b_if_ne (pc := 21) (tgt := 28) dX5_place_21 (by decide) (fun c21 => ?_) (fun c21 => ?_)
      · obtain ⟨k, hk, rfl⟩ := (inB_n (by omega) (by omega)).mp c21
        have e := rPlace_in (k := k) (by omega) ho
        obtain ⟨i, n, ⟨hi, hn2⟩, rfl, rfl, es⟩ := plOk_mq g ho
        rw [es] at e
        refine a_iconst (pc := 28) (v := nI 0) dX5_place_28 (by decide) ?_
        refine a_iconst (pc := 29) (v := nI 2) dX5_place_29 (by decide) ?_
        refine a_vV1 (pc := 30) (as := [.int (nI 0), .int (nI 2)]) (b := 66) (ci := 5) (v := .int (nI 0)) (h' := H0) dX5_place_30 (lc_RX5_156 rfl) ceX5_fails rfl (lt90 hn0 (shK_lt (show shK 66 = _ from rfl))) (s5_fails0 c0 t0) rfl rfl (Nat.le_of_ble_eq_true rfl) rfl ?_
        refine n_if_eq (pc := 33) (tgt := 40) dX5_place_33 (by decide) (by omega) (fun cz => ?_) (fun cz => ?_)
        · skip
          refine a_aload_n (pc := 40) (i := 0) dX5_place_40 rfl rfl ?_
          refine a_iload_n (pc := 41) (i := 1) dX5_place_41 rfl rfl ?_
          refine a_iload_n (pc := 42) (i := 2) dX5_place_42 rfl rfl ?_
          refine a_iload_n (pc := 43) (i := 3) dX5_place_43 rfl rfl ?_
          refine a_vV1 (pc := 44) (as := [.int (nI i), .int (nI n), .int (nI k)]) (b := 66) (ci := 5) (v := .int ((plL (tC t) (mq (tC t) i n)).getD k 0)) (h' := H0) dX5_place_44 (lc_RX5_275 rfl) ceX5_toldPlace rfl (lt90 hn0 (shK_lt (show shK 66 = _ from rfl))) (s5_toldPlace (d := d + 295) c0 g r0 hi hn2 (by omega)) rfl rfl (Nat.le_of_ble_eq_true rfl) rfl ?_
          exact a_ireturn (pc := 47) dX5_place_47 rfl rfl (⟨_, rfl, (fun w hw => by rw [e] at hw; cases hw; rfl), by rw [e]; exact t0, m0, f0.fm⟩)
        · exact absurd cz (by omega)
      · have e : rPlace (tC t) x y w = .inr eIA := (cif_t ho).trans (selO (k := 4) rfl (inB_out (by omega) c21))
        refine a_iconst (pc := 24) (v := nI 1) dX5_place_24 (by decide) ?_
        refine a_goto (pc := 25) (tgt := 29) dX5_place_25 (by decide) ?_
        refine a_iconst (pc := 29) (v := nI 2) dX5_place_29 (by decide) ?_
        refine a_vV1 (pc := 30) (as := [.int (nI 1), .int (nI 2)]) (b := 66) (ci := 5) (v := .int (nI 1)) (h' := (sI H0 66 0 (nI 2))) dX5_place_30 (lc_RX5_156 rfl) ceX5_fails rfl (lt90 hn0 (shK_lt (show shK 66 = _ from rfl))) (s5_fails1 c0 t0 (by omega)) rfl rfl (Nat.le_of_ble_eq_true rfl) rfl ?_
        refine n_if_eq (pc := 33) (tgt := 40) dX5_place_33 (by decide) (by omega) (fun cz => ?_) (fun cz => ?_)
        · exact absurd cz (by omega)
        · skip
          refine a_iconst (pc := 36) (v := nI 0) dX5_place_36 (by decide) ?_
          refine a_goto (pc := 37) (tgt := 47) dX5_place_37 (by decide) ?_
          exact a_ireturn (pc := 47) dX5_place_47 rfl rfl (⟨_, rfl, (fun w hw => by rw [e] at hw; cases hw), by rw [e, show kn [eIO, eIA] (.inr eIA) = 2 from by decide +kernel]; exact rd2 ⟨rfl, rfl⟩, m0.scr (S := [66]) (Fr.refl.sI (by simp)) (by simp) (rd1 (by omega)) (rd1 (by omega)) (rd1 (by omega)), f0.fm.trans (Fr.fm (Fr.refl.sI (by simp)))⟩)
  · have e : rPlace (tC t) x y w = .inr eIO := cif_f ho
    refine a_aload_n (pc := 5) (i := 0) dX5_place_5 rfl rfl ?_
    refine a_iload_n (pc := 6) (i := 1) dX5_place_6 rfl rfl ?_
    refine a_iload_n (pc := 7) (i := 2) dX5_place_7 rfl rfl ?_
    refine a_vV1 (pc := 8) (as := [.int x, .int y]) (b := 66) (ci := 5) (v := .int (nI 1)) (h' := (sI H0 66 0 (nI 1))) dX5_place_8 (lc_RX5_266 rfl) ceX5_noPlace rfl (lt90 hn0 (shK_lt (show shK 66 = _ from rfl))) (s5_noPlace1 (d := d + 298) c0 g r0 t0 ho) rfl rfl (Nat.le_of_ble_eq_true rfl) rfl ?_
    refine n_if_ne (pc := 11) (tgt := 36) dX5_place_11 (by decide) (by omega) (fun cz => ?_) (fun cz => ?_)
    · skip
      refine a_iconst (pc := 36) (v := nI 0) dX5_place_36 (by decide) ?_
      refine a_goto (pc := 37) (tgt := 47) dX5_place_37 (by decide) ?_
      exact a_ireturn (pc := 47) dX5_place_47 rfl rfl (⟨_, rfl, (fun w hw => by rw [e] at hw; cases hw), by rw [e, show kn [eIO, eIA] (.inr eIO) = 1 from by decide +kernel]; exact rd2 ⟨rfl, rfl⟩, m0.scr (S := [66]) (Fr.refl.sI (by simp)) (by simp) (rd1 (by omega)) (rd1 (by omega)) (rd1 (by omega)), f0.fm.trans (Fr.fm (Fr.refl.sI (by simp)))⟩)
    · exact absurd cz (by omega)
set_option maxHeartbeats 1500000 in
set_option maxRecDepth 100000 in
theorem s5_message {d : Nat} {h : AH} {t : ST} {x : Int32} (m : MM h t) : AC mX5_message (d + 300) 0 0 [.ref 66, .int x] h (Qm [eNS] (rMessage (tC t) x) t h) := by
  have c := m.1
  have g := m.2.1.1
  have r := m.2.2.1
  have hn := c.1
  have gw := g.1
  have gh := g.2.1
  have gl := g.2.2.2.2.2.1
  have gc := cells48 g
  refine AC.of (by decide) rfl (Nat.le_of_ble_eq_true rfl) (fun X => ?_)
  show AW X mX5_message (d + 300) 0 0 0 [(0, .ref 66), (1, .int x)] [] h (Qm [eNS] (rMessage (tC t) x) t h)
  refine a_aload_n (pc := 0) (i := 0) dX5_message_0 rfl rfl ?_
  refine a_iconst (pc := 1) (v := nI 0) dX5_message_1 (by decide) ?_
  refine a_putI (pc := 2) (ci := 5) (k := 0) dX5_message_2 (lf_RX5_64 rfl) (by decide) (Or.inl rfl) rfl (lt90 hn (shK_lt (show shK 66 = _ from rfl))) rfl ?_
  obtain ⟨H0, hH0⟩ : ∃ Hx, Hx = sI h 66 0 (nI 0) := ⟨_, rfl⟩
  have f0 : Fr [66] h H0 := by rw [hH0]; exact Fr.refl.sI (by simp)
  have k0 : ∀ j, j ≠ 0 → hI H0 66 j = hI h 66 j := fun j hj => by rw [hH0]; exact rd1 (by omega)
  have t0 : hI H0 66 0 = nI 0 := by rw [hH0]; exact rd2 ⟨rfl, rfl⟩
  refine a_heap (h' := H0) hH0.symm ?_
  have m0 : MM H0 t := m.scr f0 (by simp) (k0 2 (by omega)) (k0 7 (by omega)) (k0 12 (by omega))
  have c0 := m0.1
  have r0 := m0.2.2.1
  have hn0 := c0.1
  refine a_aload_n (pc := 5) (i := 0) dX5_message_5 rfl rfl ?_
  refine a_iload_n (pc := 6) (i := 1) dX5_message_6 rfl rfl ?_
  refine a_iconst (pc := 7) (v := nI 0) dX5_message_7 (by decide) ?_
  refine a_aload_n (pc := 8) (i := 0) dX5_message_8 rfl rfl ?_
  refine a_getR (pc := 9) (ci := 5) (k := 8) (b := 68) dX5_message_9 (lf_RX5_17 rfl) (by decide) rfl rfl (lt90 hn0 (shK_lt (show shK 66 = _ from rfl))) c0.2.2.2.2.2.2.2.2.1.2.1 ?_
  refine a_iconst (pc := 12) (v := nI 3) dX5_message_12 (by decide) ?_
  refine a_iald (pc := 13) (j := 3) dX5_message_13 rfl (lt90 hn0 (shK_lt (show shK 68 = _ from rfl))) rfl (by omega) ?_
  refine a_top (show (.int (hI H0 68 3) : Value) = .int (nI (sLen (tC t))) from congrArg Value.int r0.1.2.2.2.1) ?_
  refine a_iconst (pc := 14) (v := nI 1) dX5_message_14 (by decide) ?_
  refine a_isub (pc := 15) dX5_message_15 ?_
  refine a_vS1 (pc := 16) (as := [.int x, .int (nI 0), .int ((nI (sLen (tC t))) - (nI 1))]) (v := .int (bi (inB x (nI 0) (nI (sLen (tC t)) - nI 1)))) (h' := H0) dX5_message_16 (lc_RX5_86 rfl) ceX5_in s5_in rfl rfl (Nat.le_of_ble_eq_true rfl) rfl ?_
  refine b_if_ne (pc := 19) (tgt := 26) dX5_message_19 (by decide) (fun c19 => ?_) (fun c19 => ?_)
  · obtain ⟨k, hk, rfl⟩ := (inB_l (by omega)).mp c19
    have e : rMessage (tC t) (nI k) = .inl (some (.int (nI (sMs (tC t) k)))) := by
      refine (cif_t ⟨k, hk, rfl⟩).trans ?_
      rw [i2n_nI (by omega), msA_lt hk]; rfl
    refine a_iconst (pc := 26) (v := nI 0) dX5_message_26 (by decide) ?_
    refine a_iconst (pc := 27) (v := nI 1) dX5_message_27 (by decide) ?_
    refine a_vV1 (pc := 28) (as := [.int (nI 0), .int (nI 1)]) (b := 66) (ci := 5) (v := .int (nI 0)) (h' := H0) dX5_message_28 (lc_RX5_156 rfl) ceX5_fails rfl (lt90 hn0 (shK_lt (show shK 66 = _ from rfl))) (s5_fails0 c0 t0) rfl rfl (Nat.le_of_ble_eq_true rfl) rfl ?_
    refine n_if_eq (pc := 31) (tgt := 38) dX5_message_31 (by decide) (by omega) (fun cz => ?_) (fun cz => ?_)
    · skip
      refine a_aload_n (pc := 38) (i := 0) dX5_message_38 rfl rfl ?_
      refine a_getR (pc := 39) (ci := 5) (k := 8) (b := 68) dX5_message_39 (lf_RX5_17 rfl) (by decide) rfl rfl (lt90 hn0 (shK_lt (show shK 66 = _ from rfl))) c0.2.2.2.2.2.2.2.2.1.2.1 ?_
      refine a_sipush (pc := 42) (v := nI 162) dX5_message_42 (by decide) ?_
      refine a_iload_n (pc := 45) (i := 1) dX5_message_45 rfl rfl ?_
      refine n_iadd (pc := 46) dX5_message_46 ?_
      refine a_iald (pc := 47) (j := (162 + k)) dX5_message_47 rfl (lt90 hn0 (shK_lt (show shK 68 = _ from rfl))) rfl (by omega) ?_
      refine a_top (show (.int (hI H0 68 (162 + k)) : Value) = .int (nI (sMs (tC t) k)) from congrArg Value.int (r0.2.2.2.2 k hk)) ?_
      exact a_ireturn (pc := 48) dX5_message_48 rfl rfl (⟨_, rfl, (fun w hw => by rw [e] at hw; cases hw; rfl), by rw [e]; exact t0, m0, f0.fm⟩)
    · exact absurd cz (by omega)
  · have e : rMessage (tC t) x = .inr eNS := cif_f (fun z => c19 ((inB_l (by omega)).mpr z))
    refine a_iconst (pc := 22) (v := nI 1) dX5_message_22 (by decide) ?_
    refine a_goto (pc := 23) (tgt := 27) dX5_message_23 (by decide) ?_
    refine a_iconst (pc := 27) (v := nI 1) dX5_message_27 (by decide) ?_
    refine a_vV1 (pc := 28) (as := [.int (nI 1), .int (nI 1)]) (b := 66) (ci := 5) (v := .int (nI 1)) (h' := (sI H0 66 0 (nI 1))) dX5_message_28 (lc_RX5_156 rfl) ceX5_fails rfl (lt90 hn0 (shK_lt (show shK 66 = _ from rfl))) (s5_fails1 c0 t0 (by omega)) rfl rfl (Nat.le_of_ble_eq_true rfl) rfl ?_
    refine n_if_eq (pc := 31) (tgt := 38) dX5_message_31 (by decide) (by omega) (fun cz => ?_) (fun cz => ?_)
    · exact absurd cz (by omega)
    · skip
      refine a_iconst (pc := 34) (v := nI 0) dX5_message_34 (by decide) ?_
      refine a_goto (pc := 35) (tgt := 48) dX5_message_35 (by decide) ?_
      exact a_ireturn (pc := 48) dX5_message_48 rfl rfl (⟨_, rfl, (fun w hw => by rw [e] at hw; cases hw), by rw [e, show kn [eNS] (.inr eNS) = 1 from by decide +kernel]; exact rd2 ⟨rfl, rfl⟩, m0.scr (S := [66]) (Fr.refl.sI (by simp)) (by simp) (rd1 (by omega)) (rd1 (by omega)) (rd1 (by omega)), f0.fm.trans (Fr.fm (Fr.refl.sI (by simp)))⟩)
set_option maxHeartbeats 1500000 in
set_option maxRecDepth 100000 in
theorem s5_clashes {d : Nat} {h : AH} {t : ST} (m : MM h t) : AC mX5_clashes (d + 300) 0 0 [.ref 66] h (Qn (.int (nI (nClash (tC t)))) t h) := by
  have c := m.1
  have g := m.2.1.1
  have r := m.2.2.1
  have hn := c.1
  have gw := g.1
  have gh := g.2.1
  have gl := g.2.2.2.2.2.1
  have gc := cells48 g
  refine AC.of (by decide) rfl (Nat.le_of_ble_eq_true rfl) (fun X => ?_)
  show AW X mX5_clashes (d + 300) 0 0 0 [(0, .ref 66)] [] h (Qn (.int (nI (nClash (tC t)))) t h)
  refine a_aload_n (pc := 0) (i := 0) dX5_clashes_0 rfl rfl ?_
  refine a_iconst (pc := 1) (v := nI 0) dX5_clashes_1 (by decide) ?_
  refine a_putI (pc := 2) (ci := 5) (k := 0) dX5_clashes_2 (lf_RX5_64 rfl) (by decide) (Or.inl rfl) rfl (lt90 hn (shK_lt (show shK 66 = _ from rfl))) rfl ?_
  obtain ⟨H0, hH0⟩ : ∃ Hx, Hx = sI h 66 0 (nI 0) := ⟨_, rfl⟩
  have f0 : Fr [66] h H0 := by rw [hH0]; exact Fr.refl.sI (by simp)
  have k0 : ∀ j, j ≠ 0 → hI H0 66 j = hI h 66 j := fun j hj => by rw [hH0]; exact rd1 (by omega)
  have t0 : hI H0 66 0 = nI 0 := by rw [hH0]; exact rd2 ⟨rfl, rfl⟩
  refine a_heap (h' := H0) hH0.symm ?_
  have m0 : MM H0 t := m.scr f0 (by simp) (k0 2 (by omega)) (k0 7 (by omega)) (k0 12 (by omega))
  have c0 := m0.1
  have r0 := m0.2.2.1
  have hn0 := c0.1
  refine a_aload_n (pc := 5) (i := 0) dX5_clashes_5 rfl rfl ?_
  refine a_vV1 (pc := 6) (as := []) (b := 66) (ci := 5) (v := .int (nI (nClash (tC t)))) (h' := H0) dX5_clashes_6 (lc_RX5_299 rfl) ceX5_clashesNow rfl (lt90 hn0 (shK_lt (show shK 66 = _ from rfl))) (s5_clashesNow (d := d + 294) c0 g r0) rfl rfl (Nat.le_of_ble_eq_true rfl) rfl ?_
  exact a_ireturn (pc := 9) dX5_clashes_9 rfl rfl (⟨rfl, m0, f0.fm⟩)
set_option maxHeartbeats 1500000 in
set_option maxRecDepth 100000 in
theorem s5_errorOffset {d : Nat} {h : AH} {t : ST} (m : MM h t) : AC mX5_errorOffset (d + 300) 0 0 [.ref 66] h (Qn (.int (tE t)) t h) := by
  have c := m.1
  have g := m.2.1.1
  have r := m.2.2.1
  have hn := c.1
  have gw := g.1
  have gh := g.2.1
  have gl := g.2.2.2.2.2.1
  have gc := cells48 g
  refine AC.of (by decide) rfl (Nat.le_of_ble_eq_true rfl) (fun X => ?_)
  show AW X mX5_errorOffset (d + 300) 0 0 0 [(0, .ref 66)] [] h (Qn (.int (tE t)) t h)
  refine a_aload_n (pc := 0) (i := 0) dX5_errorOffset_0 rfl rfl ?_
  refine a_iconst (pc := 1) (v := nI 0) dX5_errorOffset_1 (by decide) ?_
  refine a_putI (pc := 2) (ci := 5) (k := 0) dX5_errorOffset_2 (lf_RX5_64 rfl) (by decide) (Or.inl rfl) rfl (lt90 hn (shK_lt (show shK 66 = _ from rfl))) rfl ?_
  obtain ⟨H0, hH0⟩ : ∃ Hx, Hx = sI h 66 0 (nI 0) := ⟨_, rfl⟩
  have f0 : Fr [66] h H0 := by rw [hH0]; exact Fr.refl.sI (by simp)
  have k0 : ∀ j, j ≠ 0 → hI H0 66 j = hI h 66 j := fun j hj => by rw [hH0]; exact rd1 (by omega)
  have t0 : hI H0 66 0 = nI 0 := by rw [hH0]; exact rd2 ⟨rfl, rfl⟩
  refine a_heap (h' := H0) hH0.symm ?_
  have m0 : MM H0 t := m.scr f0 (by simp) (k0 2 (by omega)) (k0 7 (by omega)) (k0 12 (by omega))
  have c0 := m0.1
  have r0 := m0.2.2.1
  have hn0 := c0.1
  refine a_aload_n (pc := 5) (i := 0) dX5_errorOffset_5 rfl rfl ?_
  refine a_getI (pc := 6) (ci := 5) (k := 7) dX5_errorOffset_6 (lf_RX5_13 rfl) (by decide) rfl rfl (lt90 hn0 (shK_lt (show shK 66 = _ from rfl))) ?_
  refine a_top (show (.int (hI H0 66 7) : Value) = .int (tE t) from congrArg Value.int m0.2.2.2.2.1) ?_
  exact a_ireturn (pc := 9) dX5_errorOffset_9 rfl rfl (⟨rfl, m0, f0.fm⟩)
theorem rStock_2 {s : SH} {x : Int32} (h : ∃ n, n < 26 ∧ x = nI n) : rStock s x (nI 2) = .inl (some (.int (nI (inMs s x)))) := (cif_t h).trans (sel_in (by omega))
theorem rStock_0 {s : SH} {x : Int32} (h : ∃ n, n < 26 ∧ x = nI n) : rStock s x (nI 0) = .inl (some (.int (nI (cnt (fun q => qlt s q = x ∧ qcu s q) 96)))) := (cif_t h).trans (sel_in (by omega))
theorem rStock_1 {s : SH} {x : Int32} (h : ∃ n, n < 26 ∧ x = nI n) : rStock s x (nI 1) = .inl (some (.int (nI (cnt (cwP s x) 64)))) := (cif_t h).trans (sel_in (by omega))
/-- one side, the other side behind -/
def sd0 (s : SH) (x : Int32) (c : Nat) : Prop := qlt s (mq s 0 c) = x ∧ qcu s (mq s 0 c)
def sd1 (s : SH) (x : Int32) (c : Nat) : Prop := qlt s (mq s 1 (mbh s c)) = x ∧ qcu s (mq s 1 (mbh s c))
theorem stock_0 {s : SH} (g : GS s) {x : Int32} : cnt (fun q => qlt s q = x ∧ qcu s q) 96 = cnt (sd0 s x) (sCells s) + cnt (sd1 s x) (sCells s) := by
  rw [c_two g (P := fun q => qlt s q = x ∧ qcu s q) (fun q hq => qcu_has hq.2)]
  congr 1
  exact (c_perm g (P := fun p => qlt s (mq s 1 p) = x ∧ qcu s (mq s 1 p))).symm
theorem cw_on {s : SH} (g : GS s) {x : Int32} {b : Nat} (h : cwP s x b) : b / 8 < sH s ∧ b % 8 < sW s := by
  obtain ⟨q, hq, hu, rfl⟩ := h
  have h2 := qcu_has hu.2
  have h3 := h2.1
  have h4 := h2.2
  have gw := g.1
  unfold qcell
  split <;> omega
theorem stock_1 {s : SH} (g : GS s) {x : Int32} : cnt (cwP s x) 64 = cnt (fun c => sd0 s x c ∨ sd1 s x c) (sCells s) := by
  rw [c_cell g (P := cwP s x) (fun b hb => cw_on g hb)]
  exact cnt_congr _ fun c hc => cw_has g hc
noncomputable def stN (s : SH) (x : Int32) (w c : Nat) : Nat := if w = 0 then cnt (sd0 s x) c + cnt (sd1 s x) c else cnt (fun c => sd0 s x c ∨ sd1 s x c) c
theorem stN_s {s : SH} {x : Int32} {w c : Nat} : stN s x w (c + 1) = stN s x w c + (if w = 0 then bN (sd0 s x c) + bN (sd1 s x c) else min 1 (bN (sd0 s x c) + bN (sd1 s x c))) := by
  unfold stN
  split
  · rw [cnt_s, cnt_s]; omega
  · rw [cnt_s]
    congr 1
    rcases Classical.em (sd0 s x c) with a | a <;> rcases Classical.em (sd1 s x c) with b | b
    · rw [bN_t a, bN_t b, bN_t (Or.inl a)]; rfl
    · rw [bN_t a, bN_f b, bN_t (Or.inl a)]; rfl
    · rw [bN_f a, bN_t b, bN_t (Or.inr b)]; rfl
    · rw [bN_f a, bN_f b, bN_f (fun z => z.elim a b)]; rfl
set_option maxHeartbeats 1500000 in
set_option maxRecDepth 100000 in
theorem s5_stock {d : Nat} {h : AH} {t : ST} {x w : Int32} (m : MM h t) : AC mX5_stock (d + 300) 0 0 [.ref 66, .int x, .int w] h (Qm [eIA] (rStock (tC t) x w) t h) := by
  have c := m.1
  have g := m.2.1.1
  have r := m.2.2.1
  have hn := c.1
  have gw := g.1
  have gh := g.2.1
  have gl := g.2.2.2.2.2.1
  have gc := cells48 g
  refine AC.of (by decide) rfl (Nat.le_of_ble_eq_true rfl) (fun X => ?_)
  show AW X mX5_stock (d + 300) 0 0 0 [(0, .ref 66), (1, .int x), (2, .int w)] [] h (Qm [eIA] (rStock (tC t) x w) t h)
  refine a_aload_n (pc := 0) (i := 0) dX5_stock_0 rfl rfl ?_
  refine a_iconst (pc := 1) (v := nI 0) dX5_stock_1 (by decide) ?_
  refine a_putI (pc := 2) (ci := 5) (k := 0) dX5_stock_2 (lf_RX5_64 rfl) (by decide) (Or.inl rfl) rfl (lt90 hn (shK_lt (show shK 66 = _ from rfl))) rfl ?_
  obtain ⟨H0, hH0⟩ : ∃ Hx, Hx = sI h 66 0 (nI 0) := ⟨_, rfl⟩
  have f0 : Fr [66] h H0 := by rw [hH0]; exact Fr.refl.sI (by simp)
  have k0 : ∀ j, j ≠ 0 → hI H0 66 j = hI h 66 j := fun j hj => by rw [hH0]; exact rd1 (by omega)
  have t0 : hI H0 66 0 = nI 0 := by rw [hH0]; exact rd2 ⟨rfl, rfl⟩
  refine a_heap (h' := H0) hH0.symm ?_
  have m0 : MM H0 t := m.scr f0 (by simp) (k0 2 (by omega)) (k0 7 (by omega)) (k0 12 (by omega))
  have c0 := m0.1
  have r0 := m0.2.2.1
  have hn0 := c0.1
  refine a_aload_n (pc := 5) (i := 0) dX5_stock_5 rfl rfl ?_
  refine a_iload_n (pc := 6) (i := 1) dX5_stock_6 rfl rfl ?_
  refine a_iconst (pc := 7) (v := nI 0) dX5_stock_7 (by decide) ?_
  refine a_bipush (pc := 8) (v := nI 25) dX5_stock_8 (by decide) ?_
  refine a_vS1 (pc := 10) (as := [.int x, .int (nI 0), .int (nI 25)]) (v := .int (bi (inB x (nI 0) (nI 25)))) (h' := H0) dX5_stock_10 (lc_RX5_86 rfl) ceX5_in s5_in rfl rfl (Nat.le_of_ble_eq_true rfl) rfl ?_
  refine b_if_eq (pc := 13) (tgt := 25) dX5_stock_13 (by decide) (fun c13 => ?_) (fun c13 => ?_)
  · have e : rStock (tC t) x w = .inr eIA := cif_f (fun ⟨n, h1, h2⟩ => c13 ((inB_n (by omega) (by omega)).mpr ⟨n, by omega, h2⟩))
    refine a_iconst (pc := 25) (v := nI 1) dX5_stock_25 (by decide) ?_
    refine a_goto (pc := 26) (tgt := 30) dX5_stock_26 (by decide) ?_
    refine a_iconst (pc := 30) (v := nI 1) dX5_stock_30 (by decide) ?_
    refine a_vV1 (pc := 31) (as := [.int (nI 1), .int (nI 1)]) (b := 66) (ci := 5) (v := .int (nI 1)) (h' := (sI H0 66 0 (nI 1))) dX5_stock_31 (lc_RX5_156 rfl) ceX5_fails rfl (lt90 hn0 (shK_lt (show shK 66 = _ from rfl))) (s5_fails1 c0 t0 (by omega)) rfl rfl (Nat.le_of_ble_eq_true rfl) rfl ?_
    refine n_if_eq (pc := 34) (tgt := 39) dX5_stock_34 (by decide) (by omega) (fun cz => ?_) (fun cz => ?_)
    · exact absurd cz (by omega)
    · skip
      refine a_iconst (pc := 37) (v := nI 0) dX5_stock_37 (by decide) ?_
      exact a_ireturn (pc := 38) dX5_stock_38 rfl rfl (⟨_, rfl, (fun w hw => by rw [e] at hw; cases hw), by rw [e, show kn [eIA] (.inr eIA) = 1 from by decide +kernel]; exact rd2 ⟨rfl, rfl⟩, m0.scr (S := [66]) (Fr.refl.sI (by simp)) (by simp) (rd1 (by omega)) (rd1 (by omega)) (rd1 (by omega)), f0.fm.trans (Fr.fm (Fr.refl.sI (by simp)))⟩)
  · have hx : ∃ n, n < 26 ∧ x = nI n := by obtain ⟨n, h1, h2⟩ := (inB_n (by omega) (by omega)).mp c13; exact ⟨n, by omega, h2⟩
    refine a_iload_n (pc := 16) (i := 2) dX5_stock_16 rfl rfl ?_
    refine a_iconst (pc := 17) (v := nI 0) dX5_stock_17 (by decide) ?_
    refine a_iconst (pc := 18) (v := nI 2) dX5_stock_18 (by decide) ?_
    refine a_vS1 (pc := 19) (as := [.int w, .int (nI 0), .int (nI 2)]) (v := .int (bi (inB w (nI 0) (nI 2)))) (h' := H0) dX5_stock_19 (lc_RX5_86 rfl) ceX5_in s5_in rfl rfl (Nat.le_of_ble_eq_true rfl) rfl ?_
    refine b_if_ne (pc := 22) (tgt := 29) dX5_stock_22 (by decide) (fun c22 => ?_) (fun c22 => ?_)
    · obtain ⟨k, hk, rfl⟩ := (inB_n (by omega) (by omega)).mp c22
      refine a_iconst (pc := 29) (v := nI 0) dX5_stock_29 (by decide) ?_
      refine a_iconst (pc := 30) (v := nI 1) dX5_stock_30 (by decide) ?_
      refine a_vV1 (pc := 31) (as := [.int (nI 0), .int (nI 1)]) (b := 66) (ci := 5) (v := .int (nI 0)) (h' := H0) dX5_stock_31 (lc_RX5_156 rfl) ceX5_fails rfl (lt90 hn0 (shK_lt (show shK 66 = _ from rfl))) (s5_fails0 c0 t0) rfl rfl (Nat.le_of_ble_eq_true rfl) rfl ?_
      refine n_if_eq (pc := 34) (tgt := 39) dX5_stock_34 (by decide) (by omega) (fun cz => ?_) (fun cz => ?_)
      · skip
        refine a_iload_n (pc := 39) (i := 2) dX5_stock_39 rfl rfl ?_
        refine a_iconst (pc := 40) (v := nI 2) dX5_stock_40 (by decide) ?_
        refine n_icmp_ne (pc := 41) (tgt := 50) dX5_stock_41 (by decide) (by omega) (by omega) (fun c41 => ?_) (fun c41 => ?_)
        · skip
          refine a_iconst (pc := 50) (v := nI 0) dX5_stock_50 (by decide) ?_
          refine a_istore_n (pc := 51) (i := 3) (ls' := [(0, .ref 66), (1, .int x), (2, .int (nI k)), (3, .int (nI 0))]) dX5_stock_51 rfl (by decide) rfl ?_
          refine a_iconst (pc := 52) (v := nI 0) dX5_stock_52 (by decide) ?_
          refine a_istore (pc := 53) (i := 4) (ls' := [(0, .ref 66), (1, .int x), (2, .int (nI k)), (3, .int (nI 0)), (4, .int (nI 0))]) dX5_stock_53 (by decide) rfl ?_
          have LP : ∀ (fu : Nat) (b : Nat), b ≤ sCells (tC t) → sCells (tC t) - b < fu → AW X mX5_stock (d + 300) 0 0 55 [(0, .ref 66), (1, .int x), (2, .int (nI k)), (3, .int (nI (stN (tC t) x k b))), (4, .int (nI b))] [] H0 (Qm [eIA] (rStock (tC t) x (nI k)) t h) := by
            intro fu
            induction fu with
            | zero => intro b hb hz; exact absurd hz (Nat.not_lt_zero _)
            | succ fu ih =>
              intro b hb hz
              refine a_iload (pc := 55) (i := 4) dX5_stock_55 rfl ?_
              refine a_aload_n (pc := 57) (i := 0) dX5_stock_57 rfl rfl ?_
              refine a_vV1 (pc := 58) (as := []) (b := 66) (ci := 5) (v := .int (nI (sCells (tC t)))) (h' := H0) dX5_stock_58 (lc_RX5_172 rfl) ceX5_cells rfl (lt90 hn0 (shK_lt (show shK 66 = _ from rfl))) (s5_cells c0 g r0) rfl rfl (Nat.le_of_ble_eq_true rfl) rfl ?_
              refine n_icmp_ge (pc := 61) (tgt := 127) dX5_stock_61 (by decide) (by omega) (by omega) (fun c61 => ?_) (fun c61 => ?_)
              · have eb : b = sCells (tC t) := by omega
                have e : rStock (tC t) x (nI k) = .inl (some (.int (nI (stN (tC t) x k b)))) := by
                  rcases (by omega : k = 0 ∨ k = 1) with rfl | rfl
                  · rw [rStock_0 hx, stock_0 g, eb]; rfl
                  · rw [rStock_1 hx, stock_1 g, eb]; rfl
                refine a_iload_n (pc := 127) (i := 3) dX5_stock_127 rfl rfl ?_
                exact a_ireturn (pc := 128) dX5_stock_128 rfl rfl (⟨_, rfl, (fun w hw => by rw [e] at hw; cases hw; rfl), by rw [e]; exact t0, m0, f0.fm⟩)
              · have hmb := (mbh_ok g c61).1
                refine a_aload_n (pc := 64) (i := 0) dX5_stock_64 rfl rfl ?_
                refine a_iconst (pc := 65) (v := nI 0) dX5_stock_65 (by decide) ?_
                refine a_iload (pc := 66) (i := 4) dX5_stock_66 rfl ?_
                refine a_iload_n (pc := 68) (i := 1) dX5_stock_68 rfl rfl ?_
                refine a_vV1 (pc := 69) (as := [.int (nI 0), .int (nI b), .int x]) (b := 66) (ci := 5) (v := .int (bi (sd0 (tC t) x b))) (h' := H0) dX5_stock_69 (lc_RX5_194 rfl) ceX5_isLetter rfl (lt90 hn0 (shK_lt (show shK 66 = _ from rfl))) (s5_isLetter (d := d + 295) (x := 0) c0 g r0 (by omega) c61) rfl rfl (Nat.le_of_ble_eq_true rfl) rfl ?_
                refine b_if_eq (pc := 72) (tgt := 79) dX5_stock_72 (by decide) (fun q0 => ?_) (fun q0 => ?_)
                · skip
                  refine a_iconst (pc := 79) (v := nI 0) dX5_stock_79 (by decide) ?_
                  refine a_aload_n (pc := 80) (i := 0) dX5_stock_80 rfl rfl ?_
                  refine a_iconst (pc := 81) (v := nI 1) dX5_stock_81 (by decide) ?_
                  refine a_aload_n (pc := 82) (i := 0) dX5_stock_82 rfl rfl ?_
                  refine a_iload (pc := 83) (i := 4) dX5_stock_83 rfl ?_
                  refine a_vV1 (pc := 85) (as := [.int (nI b)]) (b := 66) (ci := 5) (v := .int (nI (mbh (tC t) b))) (h' := H0) dX5_stock_85 (lc_RX5_175 rfl) ceX5_behind rfl (lt90 hn0 (shK_lt (show shK 66 = _ from rfl))) (s5_behind c0 g r0 c61) rfl rfl (Nat.le_of_ble_eq_true rfl) rfl ?_
                  refine a_iload_n (pc := 88) (i := 1) dX5_stock_88 rfl rfl ?_
                  refine a_vV1 (pc := 89) (as := [.int (nI 1), .int (nI (mbh (tC t) b)), .int x]) (b := 66) (ci := 5) (v := .int (bi (sd1 (tC t) x b))) (h' := H0) dX5_stock_89 (lc_RX5_194 rfl) ceX5_isLetter rfl (lt90 hn0 (shK_lt (show shK 66 = _ from rfl))) (s5_isLetter (d := d + 295) (x := 1) c0 g r0 (by omega) hmb) rfl rfl (Nat.le_of_ble_eq_true rfl) rfl ?_
                  refine b_if_eq (pc := 92) (tgt := 99) dX5_stock_92 (by decide) (fun q1 => ?_) (fun q1 => ?_)
                  · skip
                    refine a_iconst (pc := 99) (v := nI 0) dX5_stock_99 (by decide) ?_
                    refine n_iadd (pc := 100) dX5_stock_100 ?_
                    refine a_istore (pc := 101) (i := 5) (ls' := [(0, .ref 66), (1, .int x), (2, .int (nI k)), (3, .int (nI (stN (tC t) x k b))), (4, .int (nI b)), (5, .int (nI (0 + 0)))]) dX5_stock_101 (by decide) rfl ?_
                    refine a_iload_n (pc := 103) (i := 3) dX5_stock_103 rfl rfl ?_
                    refine a_iload_n (pc := 104) (i := 2) dX5_stock_104 rfl rfl ?_
                    refine n_if_ne (pc := 105) (tgt := 113) dX5_stock_105 (by decide) (by omega) (fun c105 => ?_) (fun c105 => ?_)
                    · skip
                      refine a_iconst (pc := 113) (v := nI 1) dX5_stock_113 (by decide) ?_
                      refine a_iload (pc := 114) (i := 5) dX5_stock_114 rfl ?_
                      refine a_vS1 (pc := 116) (as := [.int (nI 1), .int (nI (0 + 0))]) (v := .int (nI (min 1 (0 + 0)))) (h' := H0) dX5_stock_116 (lc_RX5_119 rfl) ceX5_min (s5_min (by omega) (by omega)) rfl rfl (Nat.le_of_ble_eq_true rfl) rfl ?_
                      refine n_iadd (pc := 119) dX5_stock_119 ?_
                      refine a_istore_n (pc := 120) (i := 3) (ls' := [(0, .ref 66), (1, .int x), (2, .int (nI k)), (3, .int (nI ((stN (tC t) x k b) + (min 1 (0 + 0))))), (4, .int (nI b)), (5, .int (nI (0 + 0)))]) dX5_stock_120 rfl (by decide) rfl ?_
                      refine n_iinc (pc := 121) (k := 1) (ls' := [(0, .ref 66), (1, .int x), (2, .int (nI k)), (3, .int (nI ((stN (tC t) x k b) + (min 1 (0 + 0))))), (4, .int (nI (b + 1))), (5, .int (nI (0 + 0)))]) dX5_stock_121 rfl (by decide) (by decide) rfl ?_
                      refine a_goto (pc := 124) (tgt := 55) dX5_stock_124 (by decide) ?_
                      refine a_drop (ls' := [(0, .ref 66), (1, .int x), (2, .int (nI k)), (3, .int (nI ((stN (tC t) x k b) + (min 1 (0 + 0))))), (4, .int (nI (b + 1)))]) (by simp) ?_
                      refine a_locs (ls' := [(0, .ref 66), (1, .int x), (2, .int (nI k)), (3, .int (nI (stN (tC t) x k (b + 1)))), (4, .int (nI (b + 1)))]) (by rw [stN_s, bN_f q0, bN_f q1]; simp [(show k ≠ 0 by omega)]) ?_
                      exact ih (b + 1) (by omega) (by omega)
                    · skip
                      refine a_iload (pc := 108) (i := 5) dX5_stock_108 rfl ?_
                      refine a_goto (pc := 110) (tgt := 119) dX5_stock_110 (by decide) ?_
                      refine n_iadd (pc := 119) dX5_stock_119 ?_
                      refine a_istore_n (pc := 120) (i := 3) (ls' := [(0, .ref 66), (1, .int x), (2, .int (nI k)), (3, .int (nI ((stN (tC t) x k b) + (0 + 0)))), (4, .int (nI b)), (5, .int (nI (0 + 0)))]) dX5_stock_120 rfl (by decide) rfl ?_
                      refine n_iinc (pc := 121) (k := 1) (ls' := [(0, .ref 66), (1, .int x), (2, .int (nI k)), (3, .int (nI ((stN (tC t) x k b) + (0 + 0)))), (4, .int (nI (b + 1))), (5, .int (nI (0 + 0)))]) dX5_stock_121 rfl (by decide) (by decide) rfl ?_
                      refine a_goto (pc := 124) (tgt := 55) dX5_stock_124 (by decide) ?_
                      refine a_drop (ls' := [(0, .ref 66), (1, .int x), (2, .int (nI k)), (3, .int (nI ((stN (tC t) x k b) + (0 + 0)))), (4, .int (nI (b + 1)))]) (by simp) ?_
                      refine a_locs (ls' := [(0, .ref 66), (1, .int x), (2, .int (nI k)), (3, .int (nI (stN (tC t) x k (b + 1)))), (4, .int (nI (b + 1)))]) (by rw [stN_s, bN_f q0, bN_f q1]; simp [c105]) ?_
                      exact ih (b + 1) (by omega) (by omega)
                  · skip
                    refine a_iconst (pc := 95) (v := nI 1) dX5_stock_95 (by decide) ?_
                    refine a_goto (pc := 96) (tgt := 100) dX5_stock_96 (by decide) ?_
                    refine n_iadd (pc := 100) dX5_stock_100 ?_
                    refine a_istore (pc := 101) (i := 5) (ls' := [(0, .ref 66), (1, .int x), (2, .int (nI k)), (3, .int (nI (stN (tC t) x k b))), (4, .int (nI b)), (5, .int (nI (0 + 1)))]) dX5_stock_101 (by decide) rfl ?_
                    refine a_iload_n (pc := 103) (i := 3) dX5_stock_103 rfl rfl ?_
                    refine a_iload_n (pc := 104) (i := 2) dX5_stock_104 rfl rfl ?_
                    refine n_if_ne (pc := 105) (tgt := 113) dX5_stock_105 (by decide) (by omega) (fun c105 => ?_) (fun c105 => ?_)
                    · skip
                      refine a_iconst (pc := 113) (v := nI 1) dX5_stock_113 (by decide) ?_
                      refine a_iload (pc := 114) (i := 5) dX5_stock_114 rfl ?_
                      refine a_vS1 (pc := 116) (as := [.int (nI 1), .int (nI (0 + 1))]) (v := .int (nI (min 1 (0 + 1)))) (h' := H0) dX5_stock_116 (lc_RX5_119 rfl) ceX5_min (s5_min (by omega) (by omega)) rfl rfl (Nat.le_of_ble_eq_true rfl) rfl ?_
                      refine n_iadd (pc := 119) dX5_stock_119 ?_
                      refine a_istore_n (pc := 120) (i := 3) (ls' := [(0, .ref 66), (1, .int x), (2, .int (nI k)), (3, .int (nI ((stN (tC t) x k b) + (min 1 (0 + 1))))), (4, .int (nI b)), (5, .int (nI (0 + 1)))]) dX5_stock_120 rfl (by decide) rfl ?_
                      refine n_iinc (pc := 121) (k := 1) (ls' := [(0, .ref 66), (1, .int x), (2, .int (nI k)), (3, .int (nI ((stN (tC t) x k b) + (min 1 (0 + 1))))), (4, .int (nI (b + 1))), (5, .int (nI (0 + 1)))]) dX5_stock_121 rfl (by decide) (by decide) rfl ?_
                      refine a_goto (pc := 124) (tgt := 55) dX5_stock_124 (by decide) ?_
                      refine a_drop (ls' := [(0, .ref 66), (1, .int x), (2, .int (nI k)), (3, .int (nI ((stN (tC t) x k b) + (min 1 (0 + 1))))), (4, .int (nI (b + 1)))]) (by simp) ?_
                      refine a_locs (ls' := [(0, .ref 66), (1, .int x), (2, .int (nI k)), (3, .int (nI (stN (tC t) x k (b + 1)))), (4, .int (nI (b + 1)))]) (by rw [stN_s, bN_f q0, bN_t q1]; simp [(show k ≠ 0 by omega)]) ?_
                      exact ih (b + 1) (by omega) (by omega)
                    · skip
                      refine a_iload (pc := 108) (i := 5) dX5_stock_108 rfl ?_
                      refine a_goto (pc := 110) (tgt := 119) dX5_stock_110 (by decide) ?_
                      refine n_iadd (pc := 119) dX5_stock_119 ?_
                      refine a_istore_n (pc := 120) (i := 3) (ls' := [(0, .ref 66), (1, .int x), (2, .int (nI k)), (3, .int (nI ((stN (tC t) x k b) + (0 + 1)))), (4, .int (nI b)), (5, .int (nI (0 + 1)))]) dX5_stock_120 rfl (by decide) rfl ?_
                      refine n_iinc (pc := 121) (k := 1) (ls' := [(0, .ref 66), (1, .int x), (2, .int (nI k)), (3, .int (nI ((stN (tC t) x k b) + (0 + 1)))), (4, .int (nI (b + 1))), (5, .int (nI (0 + 1)))]) dX5_stock_121 rfl (by decide) (by decide) rfl ?_
                      refine a_goto (pc := 124) (tgt := 55) dX5_stock_124 (by decide) ?_
                      refine a_drop (ls' := [(0, .ref 66), (1, .int x), (2, .int (nI k)), (3, .int (nI ((stN (tC t) x k b) + (0 + 1)))), (4, .int (nI (b + 1)))]) (by simp) ?_
                      refine a_locs (ls' := [(0, .ref 66), (1, .int x), (2, .int (nI k)), (3, .int (nI (stN (tC t) x k (b + 1)))), (4, .int (nI (b + 1)))]) (by rw [stN_s, bN_f q0, bN_t q1]; simp [c105]) ?_
                      exact ih (b + 1) (by omega) (by omega)
                · skip
                  refine a_iconst (pc := 75) (v := nI 1) dX5_stock_75 (by decide) ?_
                  refine a_goto (pc := 76) (tgt := 80) dX5_stock_76 (by decide) ?_
                  refine a_aload_n (pc := 80) (i := 0) dX5_stock_80 rfl rfl ?_
                  refine a_iconst (pc := 81) (v := nI 1) dX5_stock_81 (by decide) ?_
                  refine a_aload_n (pc := 82) (i := 0) dX5_stock_82 rfl rfl ?_
                  refine a_iload (pc := 83) (i := 4) dX5_stock_83 rfl ?_
                  refine a_vV1 (pc := 85) (as := [.int (nI b)]) (b := 66) (ci := 5) (v := .int (nI (mbh (tC t) b))) (h' := H0) dX5_stock_85 (lc_RX5_175 rfl) ceX5_behind rfl (lt90 hn0 (shK_lt (show shK 66 = _ from rfl))) (s5_behind c0 g r0 c61) rfl rfl (Nat.le_of_ble_eq_true rfl) rfl ?_
                  refine a_iload_n (pc := 88) (i := 1) dX5_stock_88 rfl rfl ?_
                  refine a_vV1 (pc := 89) (as := [.int (nI 1), .int (nI (mbh (tC t) b)), .int x]) (b := 66) (ci := 5) (v := .int (bi (sd1 (tC t) x b))) (h' := H0) dX5_stock_89 (lc_RX5_194 rfl) ceX5_isLetter rfl (lt90 hn0 (shK_lt (show shK 66 = _ from rfl))) (s5_isLetter (d := d + 295) (x := 1) c0 g r0 (by omega) hmb) rfl rfl (Nat.le_of_ble_eq_true rfl) rfl ?_
                  refine b_if_eq (pc := 92) (tgt := 99) dX5_stock_92 (by decide) (fun q1 => ?_) (fun q1 => ?_)
                  · skip
                    refine a_iconst (pc := 99) (v := nI 0) dX5_stock_99 (by decide) ?_
                    refine n_iadd (pc := 100) dX5_stock_100 ?_
                    refine a_istore (pc := 101) (i := 5) (ls' := [(0, .ref 66), (1, .int x), (2, .int (nI k)), (3, .int (nI (stN (tC t) x k b))), (4, .int (nI b)), (5, .int (nI (1 + 0)))]) dX5_stock_101 (by decide) rfl ?_
                    refine a_iload_n (pc := 103) (i := 3) dX5_stock_103 rfl rfl ?_
                    refine a_iload_n (pc := 104) (i := 2) dX5_stock_104 rfl rfl ?_
                    refine n_if_ne (pc := 105) (tgt := 113) dX5_stock_105 (by decide) (by omega) (fun c105 => ?_) (fun c105 => ?_)
                    · skip
                      refine a_iconst (pc := 113) (v := nI 1) dX5_stock_113 (by decide) ?_
                      refine a_iload (pc := 114) (i := 5) dX5_stock_114 rfl ?_
                      refine a_vS1 (pc := 116) (as := [.int (nI 1), .int (nI (1 + 0))]) (v := .int (nI (min 1 (1 + 0)))) (h' := H0) dX5_stock_116 (lc_RX5_119 rfl) ceX5_min (s5_min (by omega) (by omega)) rfl rfl (Nat.le_of_ble_eq_true rfl) rfl ?_
                      refine n_iadd (pc := 119) dX5_stock_119 ?_
                      refine a_istore_n (pc := 120) (i := 3) (ls' := [(0, .ref 66), (1, .int x), (2, .int (nI k)), (3, .int (nI ((stN (tC t) x k b) + (min 1 (1 + 0))))), (4, .int (nI b)), (5, .int (nI (1 + 0)))]) dX5_stock_120 rfl (by decide) rfl ?_
                      refine n_iinc (pc := 121) (k := 1) (ls' := [(0, .ref 66), (1, .int x), (2, .int (nI k)), (3, .int (nI ((stN (tC t) x k b) + (min 1 (1 + 0))))), (4, .int (nI (b + 1))), (5, .int (nI (1 + 0)))]) dX5_stock_121 rfl (by decide) (by decide) rfl ?_
                      refine a_goto (pc := 124) (tgt := 55) dX5_stock_124 (by decide) ?_
                      refine a_drop (ls' := [(0, .ref 66), (1, .int x), (2, .int (nI k)), (3, .int (nI ((stN (tC t) x k b) + (min 1 (1 + 0))))), (4, .int (nI (b + 1)))]) (by simp) ?_
                      refine a_locs (ls' := [(0, .ref 66), (1, .int x), (2, .int (nI k)), (3, .int (nI (stN (tC t) x k (b + 1)))), (4, .int (nI (b + 1)))]) (by rw [stN_s, bN_t q0, bN_f q1]; simp [(show k ≠ 0 by omega)]) ?_
                      exact ih (b + 1) (by omega) (by omega)
                    · skip
                      refine a_iload (pc := 108) (i := 5) dX5_stock_108 rfl ?_
                      refine a_goto (pc := 110) (tgt := 119) dX5_stock_110 (by decide) ?_
                      refine n_iadd (pc := 119) dX5_stock_119 ?_
                      refine a_istore_n (pc := 120) (i := 3) (ls' := [(0, .ref 66), (1, .int x), (2, .int (nI k)), (3, .int (nI ((stN (tC t) x k b) + (1 + 0)))), (4, .int (nI b)), (5, .int (nI (1 + 0)))]) dX5_stock_120 rfl (by decide) rfl ?_
                      refine n_iinc (pc := 121) (k := 1) (ls' := [(0, .ref 66), (1, .int x), (2, .int (nI k)), (3, .int (nI ((stN (tC t) x k b) + (1 + 0)))), (4, .int (nI (b + 1))), (5, .int (nI (1 + 0)))]) dX5_stock_121 rfl (by decide) (by decide) rfl ?_
                      refine a_goto (pc := 124) (tgt := 55) dX5_stock_124 (by decide) ?_
                      refine a_drop (ls' := [(0, .ref 66), (1, .int x), (2, .int (nI k)), (3, .int (nI ((stN (tC t) x k b) + (1 + 0)))), (4, .int (nI (b + 1)))]) (by simp) ?_
                      refine a_locs (ls' := [(0, .ref 66), (1, .int x), (2, .int (nI k)), (3, .int (nI (stN (tC t) x k (b + 1)))), (4, .int (nI (b + 1)))]) (by rw [stN_s, bN_t q0, bN_f q1]; simp [c105]) ?_
                      exact ih (b + 1) (by omega) (by omega)
                  · skip
                    refine a_iconst (pc := 95) (v := nI 1) dX5_stock_95 (by decide) ?_
                    refine a_goto (pc := 96) (tgt := 100) dX5_stock_96 (by decide) ?_
                    refine n_iadd (pc := 100) dX5_stock_100 ?_
                    refine a_istore (pc := 101) (i := 5) (ls' := [(0, .ref 66), (1, .int x), (2, .int (nI k)), (3, .int (nI (stN (tC t) x k b))), (4, .int (nI b)), (5, .int (nI (1 + 1)))]) dX5_stock_101 (by decide) rfl ?_
                    refine a_iload_n (pc := 103) (i := 3) dX5_stock_103 rfl rfl ?_
                    refine a_iload_n (pc := 104) (i := 2) dX5_stock_104 rfl rfl ?_
                    refine n_if_ne (pc := 105) (tgt := 113) dX5_stock_105 (by decide) (by omega) (fun c105 => ?_) (fun c105 => ?_)
                    · skip
                      refine a_iconst (pc := 113) (v := nI 1) dX5_stock_113 (by decide) ?_
                      refine a_iload (pc := 114) (i := 5) dX5_stock_114 rfl ?_
                      refine a_vS1 (pc := 116) (as := [.int (nI 1), .int (nI (1 + 1))]) (v := .int (nI (min 1 (1 + 1)))) (h' := H0) dX5_stock_116 (lc_RX5_119 rfl) ceX5_min (s5_min (by omega) (by omega)) rfl rfl (Nat.le_of_ble_eq_true rfl) rfl ?_
                      refine n_iadd (pc := 119) dX5_stock_119 ?_
                      refine a_istore_n (pc := 120) (i := 3) (ls' := [(0, .ref 66), (1, .int x), (2, .int (nI k)), (3, .int (nI ((stN (tC t) x k b) + (min 1 (1 + 1))))), (4, .int (nI b)), (5, .int (nI (1 + 1)))]) dX5_stock_120 rfl (by decide) rfl ?_
                      refine n_iinc (pc := 121) (k := 1) (ls' := [(0, .ref 66), (1, .int x), (2, .int (nI k)), (3, .int (nI ((stN (tC t) x k b) + (min 1 (1 + 1))))), (4, .int (nI (b + 1))), (5, .int (nI (1 + 1)))]) dX5_stock_121 rfl (by decide) (by decide) rfl ?_
                      refine a_goto (pc := 124) (tgt := 55) dX5_stock_124 (by decide) ?_
                      refine a_drop (ls' := [(0, .ref 66), (1, .int x), (2, .int (nI k)), (3, .int (nI ((stN (tC t) x k b) + (min 1 (1 + 1))))), (4, .int (nI (b + 1)))]) (by simp) ?_
                      refine a_locs (ls' := [(0, .ref 66), (1, .int x), (2, .int (nI k)), (3, .int (nI (stN (tC t) x k (b + 1)))), (4, .int (nI (b + 1)))]) (by rw [stN_s, bN_t q0, bN_t q1]; simp [(show k ≠ 0 by omega)]) ?_
                      exact ih (b + 1) (by omega) (by omega)
                    · skip
                      refine a_iload (pc := 108) (i := 5) dX5_stock_108 rfl ?_
                      refine a_goto (pc := 110) (tgt := 119) dX5_stock_110 (by decide) ?_
                      refine n_iadd (pc := 119) dX5_stock_119 ?_
                      refine a_istore_n (pc := 120) (i := 3) (ls' := [(0, .ref 66), (1, .int x), (2, .int (nI k)), (3, .int (nI ((stN (tC t) x k b) + (1 + 1)))), (4, .int (nI b)), (5, .int (nI (1 + 1)))]) dX5_stock_120 rfl (by decide) rfl ?_
                      refine n_iinc (pc := 121) (k := 1) (ls' := [(0, .ref 66), (1, .int x), (2, .int (nI k)), (3, .int (nI ((stN (tC t) x k b) + (1 + 1)))), (4, .int (nI (b + 1))), (5, .int (nI (1 + 1)))]) dX5_stock_121 rfl (by decide) (by decide) rfl ?_
                      refine a_goto (pc := 124) (tgt := 55) dX5_stock_124 (by decide) ?_
                      refine a_drop (ls' := [(0, .ref 66), (1, .int x), (2, .int (nI k)), (3, .int (nI ((stN (tC t) x k b) + (1 + 1)))), (4, .int (nI (b + 1)))]) (by simp) ?_
                      refine a_locs (ls' := [(0, .ref 66), (1, .int x), (2, .int (nI k)), (3, .int (nI (stN (tC t) x k (b + 1)))), (4, .int (nI (b + 1)))]) (by rw [stN_s, bN_t q0, bN_t q1]; simp [c105]) ?_
                      exact ih (b + 1) (by omega) (by omega)
          refine a_locs (ls' := [(0, .ref 66), (1, .int x), (2, .int (nI k)), (3, .int (nI (stN (tC t) x k 0))), (4, .int (nI 0))]) (by rw [show stN (tC t) x k 0 = 0 from by unfold stN; split <;> rfl]) ?_
          exact LP (sCells (tC t) + 1) 0 (Nat.zero_le _) (by omega)
        · subst c41
          have e := rStock_2 (s := tC t) hx
          refine a_aload_n (pc := 44) (i := 0) dX5_stock_44 rfl rfl ?_
          refine a_iload_n (pc := 45) (i := 1) dX5_stock_45 rfl rfl ?_
          refine a_vV1 (pc := 46) (as := [.int x]) (b := 66) (ci := 5) (v := .int (nI (inMs (tC t) x))) (h' := H0) dX5_stock_46 (lc_RX5_272 rfl) ceX5_inMessage rfl (lt90 hn0 (shK_lt (show shK 66 = _ from rfl))) (s5_inMessage c0 g r0) rfl rfl (Nat.le_of_ble_eq_true rfl) rfl ?_
          exact a_ireturn (pc := 49) dX5_stock_49 rfl rfl (⟨_, rfl, (fun w hw => by rw [e] at hw; cases hw; rfl), by rw [e]; exact t0, m0, f0.fm⟩)
      · exact absurd cz (by omega)
    · have e : rStock (tC t) x w = .inr eIA := (cif_t hx).trans (selO (k := 2) rfl (inB_out (by omega) c22))
      refine a_iconst (pc := 25) (v := nI 1) dX5_stock_25 (by decide) ?_
      refine a_goto (pc := 26) (tgt := 30) dX5_stock_26 (by decide) ?_
      refine a_iconst (pc := 30) (v := nI 1) dX5_stock_30 (by decide) ?_
      refine a_vV1 (pc := 31) (as := [.int (nI 1), .int (nI 1)]) (b := 66) (ci := 5) (v := .int (nI 1)) (h' := (sI H0 66 0 (nI 1))) dX5_stock_31 (lc_RX5_156 rfl) ceX5_fails rfl (lt90 hn0 (shK_lt (show shK 66 = _ from rfl))) (s5_fails1 c0 t0 (by omega)) rfl rfl (Nat.le_of_ble_eq_true rfl) rfl ?_
      refine n_if_eq (pc := 34) (tgt := 39) dX5_stock_34 (by decide) (by omega) (fun cz => ?_) (fun cz => ?_)
      · exact absurd cz (by omega)
      · skip
        refine a_iconst (pc := 37) (v := nI 0) dX5_stock_37 (by decide) ?_
        exact a_ireturn (pc := 38) dX5_stock_38 rfl rfl (⟨_, rfl, (fun w hw => by rw [e] at hw; cases hw), by rw [e, show kn [eIA] (.inr eIA) = 1 from by decide +kernel]; exact rd2 ⟨rfl, rfl⟩, m0.scr (S := [66]) (Fr.refl.sI (by simp)) (by simp) (rd1 (by omega)) (rd1 (by omega)) (rd1 (by omega)), f0.fm.trans (Fr.fm (Fr.refl.sI (by simp)))⟩)
