/-! the class LetterCutsModel: what tells of the best plan; cut -/
theorem bestR_c (s : SH) : (8 < sLen s ∧ bestR s = -2) ∨ (sLen s ≤ 8 ∧ (¬ ∃ l, BP s noA l) ∧ bestR s = -1 ∧ bestL s = []) ∨ (sLen s ≤ 8 ∧ ∃ l, BP s noA l ∧ bestL s = l ∧ bestR s = nI l.length ∧ l.length ≤ 8) := by
  rcases Nat.lt_or_ge 8 (sLen s) with z | z
  · exact Or.inl ⟨z, cif_t z⟩
  · have e : bestR s = bestN s := cif_f (by omega)
    rcases Classical.em (∃ l, BP s noA l) with ⟨l, hl⟩ | h
    · refine Or.inr (Or.inr ⟨z, l, hl, bestL_eq hl, ?_, by have := plV_le (BP_V hl); omega⟩)
      rw [e, show bestN s = _ from cif_t ⟨l, hl⟩, bestL_eq hl]
    · refine Or.inr (Or.inl ⟨z, h, by rw [e]; exact cif_f h, ?_⟩)
      unfold bestL
      rw [dif_neg h]
theorem bestR_pos {s : SH} : 0 < bestR s ↔ (sLen s ≤ 8 ∧ ∃ l, BP s noA l ∧ l ≠ []) := by
  rcases bestR_c s with ⟨h1, h2⟩ | ⟨h1, h2, h3, -⟩ | ⟨h1, l, h2, h3, h4, h5⟩
  · rw [h2]; exact ⟨fun z => absurd z (by decide), fun z => absurd z.1 (by omega)⟩
  · rw [h3]; exact ⟨fun z => absurd z (by decide), fun ⟨_, l, hl, _⟩ => absurd ⟨l, hl⟩ h2⟩
  · rw [h4]
    have e : (0 : Int32) = nI 0 := rfl
    rw [e, nI_ltI (by omega) (by omega)]
    constructor
    · intro z
      exact ⟨h1, l, h2, fun y => by rw [y] at z; exact absurd z (by simp)⟩
    · rintro ⟨-, l2, hl2, hn⟩
      rw [BP_eq hl2 h2] at hn
      exact Nat.pos_of_ne_zero (fun z => hn (List.length_eq_zero_iff.mp z))
theorem inB_neg {x v : Int32} (h : v = -1 ∨ v = -2) : ¬ inB x (nI 0) (v - nI 1) := by
  rintro ⟨h1, h2⟩
  obtain ⟨n, a, -, rfl⟩ := ge_n (by omega) h1
  refine h2 ?_
  rw [Int32.lt_iff_toInt_lt, nI_toInt a]
  rcases h with rfl | rfl
  · have : ((-1 : Int32) - nI 1).toInt = -2 := by decide
    omega
  · have : ((-2 : Int32) - nI 1).toInt = -3 := by decide
    omega
theorem inB_best {s : SH} {x : Int32} : inB x (nI 0) (bestR s - nI 1) ↔ (sLen s ≤ 8 ∧ ∃ n, n < (bestL s).length ∧ x = nI n) := by
  rcases bestR_c s with ⟨h1, h2⟩ | ⟨h1, h2, h3, h4⟩ | ⟨h1, l, h2, h3, h4, h5⟩
  · rw [h2]; exact ⟨fun z => absurd z (inB_neg (Or.inr rfl)), fun z => absurd z.1 (by omega)⟩
  · rw [h3, h4]; exact ⟨fun z => absurd z (inB_neg (Or.inl rfl)), fun ⟨_, n, hn, _⟩ => absurd hn (Nat.not_lt_zero _)⟩
  · rw [h4, h3, inB_l (by omega)]
    exact ⟨fun z => ⟨h1, z⟩, fun z => z.2⟩
theorem plV_at {s : SH} (g : GS s) : ∀ {l : List (Nat × Nat)} {k : Nat} {X : Nat → Prop}, plV s k X l → ∀ i, i < l.length → (1 ≤ (l.getD i (0, 0)).1 ∧ (l.getD i (0, 0)).1 ≤ 8) ∧ (l.getD i (0, 0)).2 < 96 ∧ qhas s (l.getD i (0, 0)).2 ∧ (l.getD i (0, 0)).2 % 8 + (l.getD i (0, 0)).1 ≤ sW s
  | [], _, _, _, i, hi => absurd hi (Nat.not_lt_zero _)
  | (n, q) :: r, k, X, h, 0, _ => by
    have h1 := qrun_ok h.1.2.2.1
    have h2 := h1.1 0 (by have := h.1.1.1; omega)
    have h3 := qcu_has h2.2
    have h4 := h1.2 (by have := h.1.1.1; omega)
    have gw := g.1
    exact ⟨⟨h.1.1.1, by show n ≤ 8; omega⟩, h.1.1.2, h3, h4⟩
  | (n, q) :: r, k, X, h, i + 1, hi => plV_at g h.2 i (by have hi : i + 1 < r.length + 1 := hi; omega)
theorem PAm.at0 {h : AH} {s : SH} {l : List (Nat × Nat)} (p : PAm h s 0 l) {i : Nat} (hi : i < l.length) : hI h 83 i = nI (l.getD i (0, 0)).1 ∧ hI h 84 i = nI ((l.getD i (0, 0)).2 / 48) ∧ hI h 85 i = nI (qpl s (l.getD i (0, 0)).2) := by
  have h1 := p i hi
  rwa [Nat.zero_add] at h1
theorem PAm.fr {S : List Nat} {h h2 : AH} {s : SH} {l : List (Nat × Nat)} (p : PAm h s 0 l) (f : Fr S h h2) (hs : 83 ∉ S ∧ 84 ∉ S ∧ 85 ∉ S) : PAm h2 s 0 l := fun i hi => by
  rw [(f.2.2 83 hs.1).1, (f.2.2 84 hs.2.1).1, (f.2.2 85 hs.2.2).1]
  exact p i hi
theorem MM.pl {h h2 : AH} {t : ST} {s : SH} (m : MM h t) (f : Fr SLm h h2) (k : K24 h h2) : MM h2 t := m.scr f (by simp) (k 2 (by omega) (by omega)) (k 7 (by omega) (by omega)) (k 12 (by omega) (by omega))
set_option maxHeartbeats 1500000 in
set_option maxRecDepth 100000 in
theorem s5_fewest {d : Nat} {h : AH} {t : ST} (m : MM h t) : AC mX5_fewest (d + 300) 0 0 [.ref 66] h (Qn (.int (bestR (tC t))) t h) := by
  have c := m.1
  have g := m.2.1.1
  have r := m.2.2.1
  have hn := c.1
  have gw := g.1
  have gh := g.2.1
  have gl := g.2.2.2.2.2.1
  have gc := cells48 g
  refine AC.of (by decide) rfl (Nat.le_of_ble_eq_true rfl) (fun X => ?_)
  show AW X mX5_fewest (d + 300) 0 0 0 [(0, .ref 66)] [] h (Qn (.int (bestR (tC t))) t h)
  refine a_aload_n (pc := 0) (i := 0) dX5_fewest_0 rfl rfl ?_
  refine a_iconst (pc := 1) (v := nI 0) dX5_fewest_1 (by decide) ?_
  refine a_putI (pc := 2) (ci := 5) (k := 0) dX5_fewest_2 (lf_RX5_64 rfl) (by decide) (Or.inl rfl) rfl (lt90 hn (shK_lt (show shK 66 = _ from rfl))) rfl ?_
  obtain ⟨H0, hH0⟩ : ∃ Hx, Hx = sI h 66 0 (nI 0) := ⟨_, rfl⟩
  have f0 : Fr [66] h H0 := by rw [hH0]; exact Fr.refl.sI (by simp)
  have k0 : ∀ j, j ≠ 0 → hI H0 66 j = hI h 66 j := fun j hj => by rw [hH0]; exact rd1 (by omega)
  have t0 : hI H0 66 0 = nI 0 := by rw [hH0]; exact rd2 ⟨rfl, rfl⟩
  refine a_heap (h' := H0) hH0.symm ?_
  have m0 : MM H0 t := m.scr f0 (by simp) (k0 2 (by omega)) (k0 7 (by omega)) (k0 12 (by omega))
  have c0 := m0.1
  have r0 := m0.2.2.1
  have hn0 := c0.1
  refine a_aload_n (pc := 5) (i := 0) dX5_fewest_5 rfl rfl ?_
  refine a_xV (pc := 6) (as := []) (b := 66) (ci := 5) dX5_fewest_6 (lc_RX5_279 rfl) ceX5_layPlan rfl (lt90 hn0 (shK_lt (show shK 66 = _ from rfl))) (s5_layPlan (d := d + 227) c0 g r0) rfl rfl (Nat.le_of_ble_eq_true rfl) LPR_n (fun x1 H1 q1 => ?_)
  obtain ⟨ex, ⟨f1, k1⟩, w1, pa1⟩ := q1
  subst ex
  have m1 : MM H1 t := m0.pl (s := tC t) f1 k1
  have c1 := m1.1
  have r1 := m1.2.2.1
  have hn1 := c1.1
  have t1 : hI H1 66 0 = nI 0 := (k1 0 (by omega) (by omega)).trans t0
  have fm1 : Fm h H1 := f0.fm.trans (f1.fm' (by simp))
  exact a_ireturn (pc := 9) dX5_fewest_9 rfl rfl (⟨rfl, m1, fm1⟩)
noncomputable def ctL (s : SH) (l : List (Nat × Nat)) (k : Nat) : List Int32 := [nI (l.getD k (0, 0)).1, nI ((l.getD k (0, 0)).2 / 48), nI (qpl s (l.getD k (0, 0)).2), nI ((l.getD k (0, 0)).1 * qsz s (l.getD k (0, 0)).2)]
set_option maxHeartbeats 1500000 in
set_option maxRecDepth 100000 in
theorem s5_toldCut {d k w : Nat} {l : List (Nat × Nat)} {h : AH} {s : SH} (c : CB h) (g : GS s) (r : DM h 68 s) (h8 : sLen s ≤ 8) (pv : plV s 0 noA l) (pa : PAm h s 0 l) (hk : k < l.length) (hw : w < 4) : AC mX5_toldCut (d + 1) 0 0 [.ref 66, .int (nI k), .int (nI w)] h (Qe (some (.int ((ctL s l k).getD w 0))) h) := by
  have hn := c.1
  have gw := g.1
  have gh := g.2.1
  have gl := g.2.2.2.2.2.1
  have gc := cells48 g
  refine AC.of (by decide) rfl (Nat.le_of_ble_eq_true rfl) (fun X => ?_)
  show AW X mX5_toldCut (d + 1) 0 0 0 [(0, .ref 66), (1, .int (nI k)), (2, .int (nI w))] [] h (Qe (some (.int ((ctL s l k).getD w 0))) h)
  obtain ⟨a1, a2, a3⟩ := pa.at0 hk
  obtain ⟨b1, b2, b3, b4⟩ := plV_at g pv k hk
  have hmq := mq_of g b2 b3
  have hl9 : k < 8 := by have := plV_le pv; omega
  refine a_iload_n (pc := 0) (i := 2) dX5_toldCut_0 rfl rfl ?_
  refine n_if_ne (pc := 1) (tgt := 13) dX5_toldCut_1 (by decide) (by omega) (fun c1 => ?_) (fun c1 => ?_)
  · skip
    refine a_iload_n (pc := 13) (i := 2) dX5_toldCut_13 rfl rfl ?_
    refine a_iconst (pc := 14) (v := nI 1) dX5_toldCut_14 (by decide) ?_
    refine n_icmp_ne (pc := 15) (tgt := 27) dX5_toldCut_15 (by decide) (by omega) (by omega) (fun c15 => ?_) (fun c15 => ?_)
    · skip
      refine a_iload_n (pc := 27) (i := 2) dX5_toldCut_27 rfl rfl ?_
      refine a_iconst (pc := 28) (v := nI 2) dX5_toldCut_28 (by decide) ?_
      refine n_icmp_ne (pc := 29) (tgt := 41) dX5_toldCut_29 (by decide) (by omega) (by omega) (fun c29 => ?_) (fun c29 => ?_)
      · have ew : w = 3 := by omega
        refine a_aload_n (pc := 41) (i := 0) dX5_toldCut_41 rfl rfl ?_
        refine a_getR (pc := 42) (ci := 5) (k := 19) (b := 83) dX5_toldCut_42 (lf_RX5_41 rfl) (by decide) rfl rfl (lt90 hn (shK_lt (show shK 66 = _ from rfl))) c.2.2.2.2.2.2.2.2.1.2.2.2.2.2.2.2.2.1 ?_
        refine a_iload_n (pc := 45) (i := 1) dX5_toldCut_45 rfl rfl ?_
        refine a_iald (pc := 46) (j := k) dX5_toldCut_46 rfl (lt90 hn (shK_lt (show shK 83 = _ from rfl))) rfl (by omega) ?_
        refine a_top (show (.int (hI h 83 k) : Value) = .int (nI ((l.getD k (0, 0)).1)) from congrArg Value.int a1) ?_
        refine a_aload_n (pc := 47) (i := 0) dX5_toldCut_47 rfl rfl ?_
        refine a_aload_n (pc := 48) (i := 0) dX5_toldCut_48 rfl rfl ?_
        refine a_getR (pc := 49) (ci := 5) (k := 20) (b := 84) dX5_toldCut_49 (lf_RX5_44 rfl) (by decide) rfl rfl (lt90 hn (shK_lt (show shK 66 = _ from rfl))) c.2.2.2.2.2.2.2.2.1.2.2.2.2.2.2.2.2.2.1 ?_
        refine a_iload_n (pc := 52) (i := 1) dX5_toldCut_52 rfl rfl ?_
        refine a_iald (pc := 53) (j := k) dX5_toldCut_53 rfl (lt90 hn (shK_lt (show shK 84 = _ from rfl))) rfl (by omega) ?_
        refine a_top (show (.int (hI h 84 k) : Value) = .int (nI ((l.getD k (0, 0)).2 / 48)) from congrArg Value.int a2) ?_
        refine a_aload_n (pc := 54) (i := 0) dX5_toldCut_54 rfl rfl ?_
        refine a_getR (pc := 55) (ci := 5) (k := 21) (b := 85) dX5_toldCut_55 (lf_RX5_47 rfl) (by decide) rfl rfl (lt90 hn (shK_lt (show shK 66 = _ from rfl))) c.2.2.2.2.2.2.2.2.1.2.2.2.2.2.2.2.2.2.2.1 ?_
        refine a_iload_n (pc := 58) (i := 1) dX5_toldCut_58 rfl rfl ?_
        refine a_iald (pc := 59) (j := k) dX5_toldCut_59 rfl (lt90 hn (shK_lt (show shK 85 = _ from rfl))) rfl (by omega) ?_
        refine a_top (show (.int (hI h 85 k) : Value) = .int (nI (qpl s (l.getD k (0, 0)).2)) from congrArg Value.int a3) ?_
        refine a_vV1 (pc := 60) (as := [.int (nI ((l.getD k (0, 0)).2 / 48)), .int (nI (qpl s (l.getD k (0, 0)).2))]) (b := 66) (ci := 5) (v := .int (nI (qsz s (mq s ((l.getD k (0, 0)).2 / 48) (qpl s (l.getD k (0, 0)).2))))) (h' := h) dX5_toldCut_60 (lc_RX5_188 rfl) ceX5_sizeAt rfl (lt90 hn (shK_lt (show shK 66 = _ from rfl))) (s5_sizeAt c g r (x := (l.getD k (0, 0)).2 / 48) (p := qpl s (l.getD k (0, 0)).2) (by omega) hmq.1) rfl rfl (Nat.le_of_ble_eq_true rfl) rfl ?_
        refine n_imul (pc := 63) dX5_toldCut_63 ?_
        exact a_ireturn (pc := 64) dX5_toldCut_64 rfl rfl (⟨by rw [ew, hmq.2]; rfl, rfl⟩)
      · skip
        refine a_aload_n (pc := 32) (i := 0) dX5_toldCut_32 rfl rfl ?_
        refine a_getR (pc := 33) (ci := 5) (k := 21) (b := 85) dX5_toldCut_33 (lf_RX5_47 rfl) (by decide) rfl rfl (lt90 hn (shK_lt (show shK 66 = _ from rfl))) c.2.2.2.2.2.2.2.2.1.2.2.2.2.2.2.2.2.2.2.1 ?_
        refine a_iload_n (pc := 36) (i := 1) dX5_toldCut_36 rfl rfl ?_
        refine a_iald (pc := 37) (j := k) dX5_toldCut_37 rfl (lt90 hn (shK_lt (show shK 85 = _ from rfl))) rfl (by omega) ?_
        refine a_top (show (.int (hI h 85 k) : Value) = .int (nI (qpl s (l.getD k (0, 0)).2)) from congrArg Value.int a3) ?_
        refine a_goto (pc := 38) (tgt := 64) dX5_toldCut_38 (by decide) ?_
        exact a_ireturn (pc := 64) dX5_toldCut_64 rfl rfl (⟨by rw [c29]; rfl, rfl⟩)
    · skip
      refine a_aload_n (pc := 18) (i := 0) dX5_toldCut_18 rfl rfl ?_
      refine a_getR (pc := 19) (ci := 5) (k := 20) (b := 84) dX5_toldCut_19 (lf_RX5_44 rfl) (by decide) rfl rfl (lt90 hn (shK_lt (show shK 66 = _ from rfl))) c.2.2.2.2.2.2.2.2.1.2.2.2.2.2.2.2.2.2.1 ?_
      refine a_iload_n (pc := 22) (i := 1) dX5_toldCut_22 rfl rfl ?_
      refine a_iald (pc := 23) (j := k) dX5_toldCut_23 rfl (lt90 hn (shK_lt (show shK 84 = _ from rfl))) rfl (by omega) ?_
      refine a_top (show (.int (hI h 84 k) : Value) = .int (nI ((l.getD k (0, 0)).2 / 48)) from congrArg Value.int a2) ?_
      refine a_goto (pc := 24) (tgt := 64) dX5_toldCut_24 (by decide) ?_
      exact a_ireturn (pc := 64) dX5_toldCut_64 rfl rfl (⟨by rw [c15]; rfl, rfl⟩)
  · skip
    refine a_aload_n (pc := 4) (i := 0) dX5_toldCut_4 rfl rfl ?_
    refine a_getR (pc := 5) (ci := 5) (k := 19) (b := 83) dX5_toldCut_5 (lf_RX5_41 rfl) (by decide) rfl rfl (lt90 hn (shK_lt (show shK 66 = _ from rfl))) c.2.2.2.2.2.2.2.2.1.2.2.2.2.2.2.2.2.1 ?_
    refine a_iload_n (pc := 8) (i := 1) dX5_toldCut_8 rfl rfl ?_
    refine a_iald (pc := 9) (j := k) dX5_toldCut_9 rfl (lt90 hn (shK_lt (show shK 83 = _ from rfl))) rfl (by omega) ?_
    refine a_top (show (.int (hI h 83 k) : Value) = .int (nI ((l.getD k (0, 0)).1)) from congrArg Value.int a1) ?_
    refine a_goto (pc := 10) (tgt := 64) dX5_toldCut_10 (by decide) ?_
    exact a_ireturn (pc := 64) dX5_toldCut_64 rfl rfl (⟨by rw [c1]; rfl, rfl⟩)
theorem rCutOf_in {s : SH} {k w : Nat} (h8 : sLen s ≤ 8) (hk : k < (bestL s).length) (hk9 : k < 1000) (hw : w < 4) : rCutOf s (nI k) (nI w) = .inl (some (.int ((ctL s (bestL s) k).getD w 0))) := by
  unfold rCutOf
  rw [cif_t ⟨h8, k, hk, rfl⟩, sel_in (by omega), i2n_nI (by omega)]
  rcases (by omega : w = 0 ∨ w = 1 ∨ w = 2 ∨ w = 3) with rfl | rfl | rfl | rfl <;> rfl
theorem best_has {s : SH} (h8 : sLen s ≤ 8) {n : Nat} (hn : n < (bestL s).length) : BP s noA (bestL s) ∧ (bestL s).length ≤ 8 := by
  rcases bestR_c s with ⟨h1, h2⟩ | ⟨h1, h2, h3, h4⟩ | ⟨h1, l, h2, h3, h4, h5⟩
  · omega
  · rw [h4] at hn; exact absurd hn (Nat.not_lt_zero _)
  · rw [h3]; exact ⟨h2, h5⟩
set_option maxHeartbeats 1500000 in
set_option maxRecDepth 100000 in
theorem s5_cutOf {d : Nat} {h : AH} {t : ST} {x y : Int32} (m : MM h t) : AC mX5_cutOf (d + 300) 0 0 [.ref 66, .int x, .int y] h (Qm [eNS, eIA] (rCutOf (tC t) x y) t h) := by
  have c := m.1
  have g := m.2.1.1
  have r := m.2.2.1
  have hn := c.1
  have gw := g.1
  have gh := g.2.1
  have gl := g.2.2.2.2.2.1
  have gc := cells48 g
  refine AC.of (by decide) rfl (Nat.le_of_ble_eq_true rfl) (fun X => ?_)
  show AW X mX5_cutOf (d + 300) 0 0 0 [(0, .ref 66), (1, .int x), (2, .int y)] [] h (Qm [eNS, eIA] (rCutOf (tC t) x y) t h)
  refine a_aload_n (pc := 0) (i := 0) dX5_cutOf_0 rfl rfl ?_
  refine a_iconst (pc := 1) (v := nI 0) dX5_cutOf_1 (by decide) ?_
  refine a_putI (pc := 2) (ci := 5) (k := 0) dX5_cutOf_2 (lf_RX5_64 rfl) (by decide) (Or.inl rfl) rfl (lt90 hn (shK_lt (show shK 66 = _ from rfl))) rfl ?_
  obtain ⟨H0, hH0⟩ : ∃ Hx, Hx = sI h 66 0 (nI 0) := ⟨_, rfl⟩
  have f0 : Fr [66] h H0 := by rw [hH0]; exact Fr.refl.sI (by simp)
  have k0 : ∀ j, j ≠ 0 → hI H0 66 j = hI h 66 j := fun j hj => by rw [hH0]; exact rd1 (by omega)
  have t0 : hI H0 66 0 = nI 0 := by rw [hH0]; exact rd2 ⟨rfl, rfl⟩
  refine a_heap (h' := H0) hH0.symm ?_
  have m0 : MM H0 t := m.scr f0 (by simp) (k0 2 (by omega)) (k0 7 (by omega)) (k0 12 (by omega))
  have c0 := m0.1
  have r0 := m0.2.2.1
  have hn0 := c0.1
  refine a_aload_n (pc := 5) (i := 0) dX5_cutOf_5 rfl rfl ?_
  refine a_xV (pc := 6) (as := []) (b := 66) (ci := 5) dX5_cutOf_6 (lc_RX5_279 rfl) ceX5_layPlan rfl (lt90 hn0 (shK_lt (show shK 66 = _ from rfl))) (s5_layPlan (d := d + 227) c0 g r0) rfl rfl (Nat.le_of_ble_eq_true rfl) LPR_n (fun x1 H1 q1 => ?_)
  obtain ⟨ex, ⟨f1, k1⟩, w1, pa1⟩ := q1
  subst ex
  have m1 : MM H1 t := m0.pl (s := tC t) f1 k1
  have c1 := m1.1
  have r1 := m1.2.2.1
  have hn1 := c1.1
  have t1 : hI H1 66 0 = nI 0 := (k1 0 (by omega) (by omega)).trans t0
  have fm1 : Fm h H1 := f0.fm.trans (f1.fm' (by simp))
  refine a_istore_n (pc := 9) (i := 3) (ls' := [(0, .ref 66), (1, .int x), (2, .int y), (3, .int (bestR (tC t)))]) dX5_cutOf_9 rfl (by decide) rfl ?_
  refine a_aload_n (pc := 10) (i := 0) dX5_cutOf_10 rfl rfl ?_
  refine a_iload_n (pc := 11) (i := 1) dX5_cutOf_11 rfl rfl ?_
  refine a_iconst (pc := 12) (v := nI 0) dX5_cutOf_12 (by decide) ?_
  refine a_iload_n (pc := 13) (i := 3) dX5_cutOf_13 rfl rfl ?_
  refine a_iconst (pc := 14) (v := nI 1) dX5_cutOf_14 (by decide) ?_
  refine a_isub (pc := 15) dX5_cutOf_15 ?_
  refine a_vS1 (pc := 16) (as := [.int x, .int (nI 0), .int ((bestR (tC t)) - (nI 1))]) (v := .int (bi (inB x (nI 0) (bestR (tC t) - nI 1)))) (h' := H1) dX5_cutOf_16 (lc_RX5_86 rfl) ceX5_in s5_in rfl rfl (Nat.le_of_ble_eq_true rfl) rfl ?_
  refine b_if_ne (pc := 19) (tgt := 26) dX5_cutOf_19 (by decide) (fun c19 => ?_) (fun c19 => ?_)
  · obtain ⟨h8, k, hk, rfl⟩ := inB_best.mp c19
    obtain ⟨hbp, hl8⟩ := best_has h8 hk
    refine a_iconst (pc := 26) (v := nI 0) dX5_cutOf_26 (by decide) ?_
    refine a_iconst (pc := 27) (v := nI 1) dX5_cutOf_27 (by decide) ?_
    refine a_vV1 (pc := 28) (as := [.int (nI 0), .int (nI 1)]) (b := 66) (ci := 5) (v := .int (nI 0)) (h' := H1) dX5_cutOf_28 (lc_RX5_156 rfl) ceX5_fails rfl (lt90 hn1 (shK_lt (show shK 66 = _ from rfl))) (s5_fails0 c1 t1) rfl rfl (Nat.le_of_ble_eq_true rfl) rfl ?_
    refine n_if_ne (pc := 31) (tgt := 56) dX5_cutOf_31 (by decide) (by omega) (fun cz => ?_) (fun cz => ?_)
    · exact absurd cz (by omega)
    · skip
      refine a_aload_n (pc := 34) (i := 0) dX5_cutOf_34 rfl rfl ?_
      refine a_iload_n (pc := 35) (i := 2) dX5_cutOf_35 rfl rfl ?_
      refine a_iconst (pc := 36) (v := nI 0) dX5_cutOf_36 (by decide) ?_
      refine a_iconst (pc := 37) (v := nI 3) dX5_cutOf_37 (by decide) ?_
      refine a_vS1 (pc := 38) (as := [.int y, .int (nI 0), .int (nI 3)]) (v := .int (bi (inB y (nI 0) (nI 3)))) (h' := H1) dX5_cutOf_38 (lc_RX5_86 rfl) ceX5_in s5_in rfl rfl (Nat.le_of_ble_eq_true rfl) rfl ?_
      refine b_if_ne (pc := 41) (tgt := 48) dX5_cutOf_41 (by decide) (fun c41 => ?_) (fun c41 => ?_)
      · obtain ⟨w, hw, rfl⟩ := (inB_n (by omega) (by omega)).mp c41
        have e := rCutOf_in (s := tC t) (k := k) (w := w) h8 hk (by omega) (by omega)
        refine a_iconst (pc := 48) (v := nI 0) dX5_cutOf_48 (by decide) ?_
        refine a_iconst (pc := 49) (v := nI 2) dX5_cutOf_49 (by decide) ?_
        refine a_vV1 (pc := 50) (as := [.int (nI 0), .int (nI 2)]) (b := 66) (ci := 5) (v := .int (nI 0)) (h' := H1) dX5_cutOf_50 (lc_RX5_156 rfl) ceX5_fails rfl (lt90 hn1 (shK_lt (show shK 66 = _ from rfl))) (s5_fails0 c1 t1) rfl rfl (Nat.le_of_ble_eq_true rfl) rfl ?_
        refine n_if_eq (pc := 53) (tgt := 60) dX5_cutOf_53 (by decide) (by omega) (fun cz => ?_) (fun cz => ?_)
        · skip
          refine a_aload_n (pc := 60) (i := 0) dX5_cutOf_60 rfl rfl ?_
          refine a_iload_n (pc := 61) (i := 1) dX5_cutOf_61 rfl rfl ?_
          refine a_iload_n (pc := 62) (i := 2) dX5_cutOf_62 rfl rfl ?_
          refine a_vV1 (pc := 63) (as := [.int (nI k), .int (nI w)]) (b := 66) (ci := 5) (v := .int ((ctL (tC t) (bestL (tC t)) k).getD w 0)) (h' := H1) dX5_cutOf_63 (lc_RX5_282 rfl) ceX5_toldCut rfl (lt90 hn1 (shK_lt (show shK 66 = _ from rfl))) (s5_toldCut (d := d + 298) (l := bestL (tC t)) c1 g r1 h8 (BP_V hbp) (pa1 h8 _ hbp) hk (by omega)) rfl rfl (Nat.le_of_ble_eq_true rfl) rfl ?_
          exact a_ireturn (pc := 66) dX5_cutOf_66 rfl rfl (⟨_, rfl, (fun w hw => by rw [e] at hw; exact Value.int.inj (Option.some.inj (Sum.inl.inj hw))), by rw [e]; exact t1, m1, fm1⟩)
        · exact absurd cz (by omega)
      · have e : rCutOf (tC t) (nI k) y = .inr eIA := (cif_t ⟨h8, k, hk, rfl⟩).trans (selO (k := 3) rfl (inB_out (by omega) c41))
        refine a_iconst (pc := 44) (v := nI 1) dX5_cutOf_44 (by decide) ?_
        refine a_goto (pc := 45) (tgt := 49) dX5_cutOf_45 (by decide) ?_
        refine a_iconst (pc := 49) (v := nI 2) dX5_cutOf_49 (by decide) ?_
        refine a_vV1 (pc := 50) (as := [.int (nI 1), .int (nI 2)]) (b := 66) (ci := 5) (v := .int (nI 1)) (h' := (sI H1 66 0 (nI 2))) dX5_cutOf_50 (lc_RX5_156 rfl) ceX5_fails rfl (lt90 hn1 (shK_lt (show shK 66 = _ from rfl))) (s5_fails1 c1 t1 (by omega)) rfl rfl (Nat.le_of_ble_eq_true rfl) rfl ?_
        refine n_if_eq (pc := 53) (tgt := 60) dX5_cutOf_53 (by decide) (by omega) (fun cz => ?_) (fun cz => ?_)
        · exact absurd cz (by omega)
        · skip
          refine a_iconst (pc := 56) (v := nI 0) dX5_cutOf_56 (by decide) ?_
          refine a_goto (pc := 57) (tgt := 66) dX5_cutOf_57 (by decide) ?_
          exact a_ireturn (pc := 66) dX5_cutOf_66 rfl rfl (⟨_, rfl, (fun w hw => by rw [e] at hw; cases hw), by rw [e, show kn [eNS, eIA] (.inr eIA) = 2 from by decide +kernel]; exact rd2 ⟨rfl, rfl⟩, m1.scr (S := [66]) (Fr.refl.sI (by simp)) (by simp) (rd1 (by omega)) (rd1 (by omega)) (rd1 (by omega)), fm1.trans (Fr.fm (Fr.refl.sI (by simp)))⟩)
  · have e : rCutOf (tC t) x y = .inr eNS := cif_f (fun z => c19 (inB_best.mpr z))
    refine a_iconst (pc := 22) (v := nI 1) dX5_cutOf_22 (by decide) ?_
    refine a_goto (pc := 23) (tgt := 27) dX5_cutOf_23 (by decide) ?_
    refine a_iconst (pc := 27) (v := nI 1) dX5_cutOf_27 (by decide) ?_
    refine a_vV1 (pc := 28) (as := [.int (nI 1), .int (nI 1)]) (b := 66) (ci := 5) (v := .int (nI 1)) (h' := (sI H1 66 0 (nI 1))) dX5_cutOf_28 (lc_RX5_156 rfl) ceX5_fails rfl (lt90 hn1 (shK_lt (show shK 66 = _ from rfl))) (s5_fails1 c1 t1 (by omega)) rfl rfl (Nat.le_of_ble_eq_true rfl) rfl ?_
    refine n_if_ne (pc := 31) (tgt := 56) dX5_cutOf_31 (by decide) (by omega) (fun cz => ?_) (fun cz => ?_)
    · skip
      refine a_iconst (pc := 56) (v := nI 0) dX5_cutOf_56 (by decide) ?_
      refine a_goto (pc := 57) (tgt := 66) dX5_cutOf_57 (by decide) ?_
      exact a_ireturn (pc := 66) dX5_cutOf_66 rfl rfl (⟨_, rfl, (fun w hw => by rw [e] at hw; cases hw), by rw [e, show kn [eNS, eIA] (.inr eNS) = 1 from by decide +kernel]; exact rd2 ⟨rfl, rfl⟩, m1.scr (S := [66]) (Fr.refl.sI (by simp)) (by simp) (rd1 (by omega)) (rd1 (by omega)) (rd1 (by omega)), fm1.trans (Fr.fm (Fr.refl.sI (by simp)))⟩)
    · exact absurd cz (by omega)
def offN (l : List (Nat × Nat)) (i : Nat) : Nat := sumN (fun j => (l.getD j (0, 0)).1) i
theorem take_s {l : List (Nat × Nat)} {i : Nat} (hi : i < l.length) : l.take (i + 1) = l.take i ++ [((l.getD i (0, 0)).1, (l.getD i (0, 0)).2)] := by
  rw [List.take_succ_eq_append_getElem hi]
  congr 1
  rw [List.getD_eq_getElem?_getD, List.getElem?_eq_getElem hi]
  rfl
theorem cnt_or {P Q : Nat → Prop} : ∀ n, (∀ i, i < n → P i → ¬ Q i) → cnt (uX P Q) n = cnt P n + cnt Q n
  | 0, _ => rfl
  | n + 1, h => by
    have ih := cnt_or (P := P) (Q := Q) n (fun i hi => h i (by omega))
    rw [cnt_s, cnt_s, cnt_s, ih]
    have : bN (uX P Q n) = bN (P n) + bN (Q n) := by
      rcases Classical.em (P n) with a | a
      · rw [bN_t (show uX P Q n from Or.inl a), bN_t a, bN_f (h n (by omega) a)]
      · rcases Classical.em (Q n) with b | b
        · rw [bN_t (show uX P Q n from Or.inr b), bN_f a, bN_t b]
        · rw [bN_f (show ¬ uX P Q n from fun z => z.elim a b), bN_f a, bN_f b]
    omega
theorem offN_s {n q : Nat} {r : List (Nat × Nat)} {i : Nat} : offN ((n, q) :: r) (i + 1) = n + offN r i := by
  unfold offN
  rw [sumN_0]
  rfl
theorem cnt_plC {s : SH} (g : GS s) : ∀ {l : List (Nat × Nat)} {k : Nat} {X : Nat → Prop}, plV s k X l → cnt (plC s l) 64 = offN l l.length ∧ k + offN l l.length = sLen s
  | [], k, X, h => ⟨cnt_none _ fun _ _ z => z, h⟩
  | (n, q) :: r, k, X, h => by
    have ih := cnt_plC g h.2
    have h1 := (plV_at g h 0 (Nat.succ_pos _)).2.2.2
    have h2 := cnt_pcl g h.1.1.2 n h1
    have h3 : cnt (uX (pcl s q n) (plC s r)) 64 = cnt (pcl s q n) 64 + cnt (plC s r) 64 := cnt_or 64 (fun i _ hp hc => plV_disj h.2 i hc (Or.inr hp))
    have e : offN ((n, q) :: r) ((n, q) :: r).length = n + offN r r.length := offN_s
    rw [e]
    refine ⟨?_, by omega⟩
    show cnt (uX (pcl s q n) (plC s r)) 64 = _
    rw [h3, h2, ih.1]
set_option maxHeartbeats 1500000 in
set_option maxRecDepth 100000 in
theorem s5_cutPlan {d a b : Nat} {h : AH} {s : SH} {P : Nat → Prop} {l : List (Nat × Nat)} {X0 : Nat → Prop} (c : CB h) (g : GS s) (h8 : sLen s ≤ 8) (r : DM h 68 (tkS s P a b)) (pv : plV s 0 X0 l) (pa : PAm h s 0 l) (hw : hI h 66 24 = nI l.length) : AC mX5_cutPlan (d + 3) 0 0 [.ref 66] h (Qf [68] none h (fun h2 => DM h2 68 (tkS s (uX P (plC s l)) (a + l.length) (b + offN l l.length)))) := by
  have hn := c.1
  have gw := g.1
  have gh := g.2.1
  have gl := g.2.2.2.2.2.1
  have gc := cells48 g
  refine AC.of (by decide) rfl (Nat.le_of_ble_eq_true rfl) (fun X => ?_)
  show AW X mX5_cutPlan (d + 3) 0 0 0 [(0, .ref 66)] [] h (Qf [68] none h (fun h2 => DM h2 68 (tkS s (uX P (plC s l)) (a + l.length) (b + offN l l.length))))
  have hll := plV_le pv
  have LP : ∀ (fu : Nat) (i : Nat) (H : AH), i ≤ l.length → Fr [68] h H → DM H 68 (tkS s (uX P (plC s (l.take i))) (a + i) (b + offN l i)) → l.length - i < fu → AW X mX5_cutPlan (d + 3) 0 0 2 [(0, .ref 66), (1, .int (nI i))] [] H (Qf [68] none h (fun h2 => DM h2 68 (tkS s (uX P (plC s l)) (a + l.length) (b + offN l l.length)))) := by
    intro fu
    induction fu with
    | zero => intro i H hi hf hd hz; exact absurd hz (Nat.not_lt_zero _)
    | succ fu ih =>
      intro i H hi hf hd hz
      have c1 := c.fr hf
      have hn1 := c1.1
      have pa1 := pa.fr hf (by simp)
      have w1 : hI H 66 24 = nI l.length := by rw [(hf.2.2 66 (by simp)).1]; exact hw
      refine a_iload_n (pc := 2) (i := 1) dX5_cutPlan_2 rfl rfl ?_
      refine a_aload_n (pc := 3) (i := 0) dX5_cutPlan_3 rfl rfl ?_
      refine a_getI (pc := 4) (ci := 5) (k := 24) dX5_cutPlan_4 (lf_RX5_244 rfl) (by decide) rfl rfl (lt90 hn1 (shK_lt (show shK 66 = _ from rfl))) ?_
      refine a_top (show (.int (hI H 66 24) : Value) = .int (nI l.length) from congrArg Value.int w1) ?_
      refine n_icmp_ge (pc := 7) (tgt := 38) dX5_cutPlan_7 (by decide) (by omega) (by omega) (fun c7 => ?_) (fun c7 => ?_)
      · have ei : i = l.length := by omega
        rw [ei, List.take_length] at hd
        exact a_return (pc := 38) dX5_cutPlan_38 rfl (⟨rfl, hf, hd⟩)
      · obtain ⟨a1, a2, a3⟩ := pa1.at0 c7
        obtain ⟨b1, b2, b3, b4⟩ := plV_at g pv i c7
        have hmq := mq_of g b2 b3
        have hl9 : i < 8 := by have := plV_le pv; omega
        refine a_aload_n (pc := 10) (i := 0) dX5_cutPlan_10 rfl rfl ?_
        refine a_aload_n (pc := 11) (i := 0) dX5_cutPlan_11 rfl rfl ?_
        refine a_getR (pc := 12) (ci := 5) (k := 20) (b := 84) dX5_cutPlan_12 (lf_RX5_44 rfl) (by decide) rfl rfl (lt90 hn1 (shK_lt (show shK 66 = _ from rfl))) c1.2.2.2.2.2.2.2.2.1.2.2.2.2.2.2.2.2.2.1 ?_
        refine a_iload_n (pc := 15) (i := 1) dX5_cutPlan_15 rfl rfl ?_
        refine a_iald (pc := 16) (j := i) dX5_cutPlan_16 rfl (lt90 hn1 (shK_lt (show shK 84 = _ from rfl))) rfl (by omega) ?_
        refine a_top (show (.int (hI H 84 i) : Value) = .int (nI ((l.getD i (0, 0)).2 / 48)) from congrArg Value.int a2) ?_
        refine a_aload_n (pc := 17) (i := 0) dX5_cutPlan_17 rfl rfl ?_
        refine a_getR (pc := 18) (ci := 5) (k := 21) (b := 85) dX5_cutPlan_18 (lf_RX5_47 rfl) (by decide) rfl rfl (lt90 hn1 (shK_lt (show shK 66 = _ from rfl))) c1.2.2.2.2.2.2.2.2.1.2.2.2.2.2.2.2.2.2.2.1 ?_
        refine a_iload_n (pc := 21) (i := 1) dX5_cutPlan_21 rfl rfl ?_
        refine a_iald (pc := 22) (j := i) dX5_cutPlan_22 rfl (lt90 hn1 (shK_lt (show shK 85 = _ from rfl))) rfl (by omega) ?_
        refine a_top (show (.int (hI H 85 i) : Value) = .int (nI (qpl s (l.getD i (0, 0)).2)) from congrArg Value.int a3) ?_
        refine a_aload_n (pc := 23) (i := 0) dX5_cutPlan_23 rfl rfl ?_
        refine a_getR (pc := 24) (ci := 5) (k := 19) (b := 83) dX5_cutPlan_24 (lf_RX5_41 rfl) (by decide) rfl rfl (lt90 hn1 (shK_lt (show shK 66 = _ from rfl))) c1.2.2.2.2.2.2.2.2.1.2.2.2.2.2.2.2.2.1 ?_
        refine a_iload_n (pc := 27) (i := 1) dX5_cutPlan_27 rfl rfl ?_
        refine a_iald (pc := 28) (j := i) dX5_cutPlan_28 rfl (lt90 hn1 (shK_lt (show shK 83 = _ from rfl))) rfl (by omega) ?_
        refine a_top (show (.int (hI H 83 i) : Value) = .int (nI ((l.getD i (0, 0)).1)) from congrArg Value.int a1) ?_
        refine a_wV0 (pc := 29) (as := [.int (nI ((l.getD i (0, 0)).2 / 48)), .int (nI (qpl s (l.getD i (0, 0)).2)), .int (nI ((l.getD i (0, 0)).1))]) (b := 66) (ci := 5) dX5_cutPlan_29 (lc_RX5_253 rfl) ceX5_goesOff rfl (lt90 hn1 (shK_lt (show shK 66 = _ from rfl))) (s5_goesOff (d := d) (n := (l.getD i (0, 0)).1) c1 g hd (by omega) hmq.1 (by rw [hmq.2]; exact b4)) rfl rfl (Nat.le_of_ble_eq_true rfl) (fun H2 f2 r2 => ?_)
        refine n_iinc (pc := 32) (k := 1) (ls' := [(0, .ref 66), (1, .int (nI (i + 1)))]) dX5_cutPlan_32 rfl (by decide) (by decide) rfl ?_
        refine a_goto (pc := 35) (tgt := 2) dX5_cutPlan_35 (by decide) ?_
        exact ih (i + 1) H2 (by omega) (hf.trans f2) (by
            rw [hmq.2, uX_assoc] at r2
            rw [take_s c7, plC_app, show b + offN l (i + 1) = b + offN l i + (l.getD i (0, 0)).1 from (Nat.add_assoc _ _ _).symm]
            exact r2) (by omega)
  refine a_iconst (pc := 0) (v := nI 0) dX5_cutPlan_0 (by decide) ?_
  refine a_istore_n (pc := 1) (i := 1) (ls' := [(0, .ref 66), (1, .int (nI 0))]) dX5_cutPlan_1 rfl (by decide) rfl ?_
  exact LP (l.length + 1) 0 h (Nat.zero_le _) Fr.refl (by
    refine ⟨r.1, r.2.1, r.2.2.1, fun c hc => (r.2.2.2.1 c hc).trans (bi_c ?_), r.2.2.2.2⟩
    show (sGn s c ∨ P (mb s c)) ↔ (sGn s c ∨ P (mb s c) ∨ False)
    rw [or_false]) (by omega)
set_option maxHeartbeats 1500000 in
set_option maxRecDepth 100000 in
theorem s5_cut {d : Nat} {h : AH} {t : ST} (m : MM h t) : AC mX5_cut (d + 300) 0 0 [.ref 66] h (Qm [eIS] (oCut t).1 (oCut t).2 h) := by
  have c := m.1
  have g := m.2.1.1
  have r := m.2.2.1
  have hn := c.1
  have gw := g.1
  have gh := g.2.1
  have gl := g.2.2.2.2.2.1
  have gc := cells48 g
  refine AC.of (by decide) rfl (Nat.le_of_ble_eq_true rfl) (fun X => ?_)
  show AW X mX5_cut (d + 300) 0 0 0 [(0, .ref 66)] [] h (Qm [eIS] (oCut t).1 (oCut t).2 h)
  refine a_aload_n (pc := 0) (i := 0) dX5_cut_0 rfl rfl ?_
  refine a_iconst (pc := 1) (v := nI 0) dX5_cut_1 (by decide) ?_
  refine a_putI (pc := 2) (ci := 5) (k := 0) dX5_cut_2 (lf_RX5_64 rfl) (by decide) (Or.inl rfl) rfl (lt90 hn (shK_lt (show shK 66 = _ from rfl))) rfl ?_
  obtain ⟨H0, hH0⟩ : ∃ Hx, Hx = sI h 66 0 (nI 0) := ⟨_, rfl⟩
  have f0 : Fr [66] h H0 := by rw [hH0]; exact Fr.refl.sI (by simp)
  have k0 : ∀ j, j ≠ 0 → hI H0 66 j = hI h 66 j := fun j hj => by rw [hH0]; exact rd1 (by omega)
  have t0 : hI H0 66 0 = nI 0 := by rw [hH0]; exact rd2 ⟨rfl, rfl⟩
  refine a_heap (h' := H0) hH0.symm ?_
  have m0 : MM H0 t := m.scr f0 (by simp) (k0 2 (by omega)) (k0 7 (by omega)) (k0 12 (by omega))
  have c0 := m0.1
  have r0 := m0.2.2.1
  have hn0 := c0.1
  refine a_aload_n (pc := 5) (i := 0) dX5_cut_5 rfl rfl ?_
  refine a_xV (pc := 6) (as := []) (b := 66) (ci := 5) dX5_cut_6 (lc_RX5_279 rfl) ceX5_layPlan rfl (lt90 hn0 (shK_lt (show shK 66 = _ from rfl))) (s5_layPlan (d := d + 227) c0 g r0) rfl rfl (Nat.le_of_ble_eq_true rfl) LPR_n (fun x1 H1 q1 => ?_)
  obtain ⟨ex, ⟨f1, k1⟩, w1, pa1⟩ := q1
  subst ex
  have m1 : MM H1 t := m0.pl (s := tC t) f1 k1
  have c1 := m1.1
  have r1 := m1.2.2.1
  have hn1 := c1.1
  have t1 : hI H1 66 0 = nI 0 := (k1 0 (by omega) (by omega)).trans t0
  have fm1 : Fm h H1 := f0.fm.trans (f1.fm' (by simp))
  refine a_istore_n (pc := 9) (i := 1) (ls' := [(0, .ref 66), (1, .int (bestR (tC t)))]) dX5_cut_9 rfl (by decide) rfl ?_
  refine a_aload_n (pc := 10) (i := 0) dX5_cut_10 rfl rfl ?_
  refine a_iload_n (pc := 11) (i := 1) dX5_cut_11 rfl rfl ?_
  refine a_if_gt (pc := 12) (tgt := 19) dX5_cut_12 (by decide) (fun c12 => ?_) (fun c12 => ?_)
  · obtain ⟨h8, l, hbp, hne⟩ := bestR_pos.mp c12
    have hbl := bestL_eq hbp
    have hbr : bestR (tC t) = nI l.length := by rcases bestR_c (tC t) with ⟨h1, -⟩ | ⟨-, h2, -, -⟩ | ⟨-, l2, h2, -, h4, -⟩; omega; exact absurd ⟨l, hbp⟩ h2; rw [h4, BP_eq h2 hbp]
    have e : oCut t = (.inl (some (.int (nI l.length))), (tkS (tC t) (plC (tC t) l) l.length (offN l l.length), (tRem t).2)) := by
      refine (cif_f (fun z => z.elim (fun z => absurd z (by omega)) (fun z => z ⟨l, hbp, hne⟩))).trans ?_
      rw [hbl, (cnt_plC g (BP_V hbp)).1]; rfl
    have hl8 := plV_le (BP_V hbp)
    refine a_iconst (pc := 19) (v := nI 0) dX5_cut_19 (by decide) ?_
    refine a_iconst (pc := 20) (v := nI 1) dX5_cut_20 (by decide) ?_
    refine a_vV1 (pc := 21) (as := [.int (nI 0), .int (nI 1)]) (b := 66) (ci := 5) (v := .int (nI 0)) (h' := H1) dX5_cut_21 (lc_RX5_156 rfl) ceX5_fails rfl (lt90 hn1 (shK_lt (show shK 66 = _ from rfl))) (s5_fails0 c1 t1) rfl rfl (Nat.le_of_ble_eq_true rfl) rfl ?_
    refine n_if_eq (pc := 24) (tgt := 29) dX5_cut_24 (by decide) (by omega) (fun cz => ?_) (fun cz => ?_)
    · skip
      refine a_aload_n (pc := 29) (i := 0) dX5_cut_29 rfl rfl ?_
      refine a_uV (pc := 30) (as := []) (b := 66) (ci := 5) dX5_cut_30 (lc_RX5_165 rfl) ceX5_remember rfl (lt90 hn1 (shK_lt (show shK 66 = _ from rfl))) (s5_remember (d := d + 298) m1) rfl rfl (Nat.le_of_ble_eq_true rfl) (fun h2 y => y.2.1.1) (fun H2 y => ?_)
      obtain ⟨m2, f2, k2⟩ := y
      have c2 := m2.1
      have r2 := m2.2.2.1
      rw [tRem_c] at r2
      have hn2 := c2.1
      have pa2 := (pa1 h8 l hbp).fr f2 (by simp)
      have w2 : hI H2 66 24 = nI l.length := by rw [k2 24 (by omega), w1, hbr]
      have r2b : DM H2 68 (tkS (tC t) noA 0 0) := DM_tk0 r2 (fun _ z => z)
      refine a_aload_n (pc := 33) (i := 0) dX5_cut_33 rfl rfl ?_
      refine a_wV0 (pc := 34) (as := []) (b := 66) (ci := 5) dX5_cut_34 (lc_RX5_293 rfl) ceX5_cutPlan rfl (lt90 hn2 (shK_lt (show shK 66 = _ from rfl))) (s5_cutPlan (d := d + 296) c2 g h8 r2b (BP_V hbp) pa2 w2) rfl rfl (Nat.le_of_ble_eq_true rfl) (fun H3 f3 r3 => ?_)
      have r3b : DM H3 68 (tkS (tC t) (plC (tC t) l) l.length (offN l l.length)) := DM_eq r3 rfl rfl rfl (fun c hc => ⟨fun z => z.elim Or.inl (fun z => z.elim (fun z => z.elim) Or.inr), fun z => z.elim Or.inl (fun z => Or.inr (Or.inr z))⟩) (by show (_, (sCu (tC t) + l.length, sTk (tC t) + offN l l.length)) = (_, (sCu (tC t) + (0 + l.length), sTk (tC t) + (0 + offN l l.length))); rw [Nat.zero_add, Nat.zero_add])
      have e66 : hI H3 66 = hI H2 66 := (f3.2.2 66 (by simp)).1
      refine a_iload_n (pc := 37) (i := 1) dX5_cut_37 rfl rfl ?_
      exact a_ireturn (pc := 38) dX5_cut_38 rfl rfl (⟨_, rfl, (fun w hw => by rw [e] at hw; rw [hbr]; exact Value.int.inj (Option.some.inj (Sum.inl.inj hw))), by rw [e]; show hI H3 66 0 = nI 0; rw [e66, k2 0 (by omega)]; exact t1, by rw [e]; exact m2.cur f3 (by simp) (by rw [e66]) (by rw [e66]) (by rw [e66]) r3b (GS_tk g), (fm1.trans (f2.fm' (by simp))).trans (f3.fm' (by simp))⟩)
    · exact absurd cz (by omega)
  · have e : oCut t = (.inr eIS, t) := cif_t (Classical.byContradiction fun z => c12 (bestR_pos.mpr ⟨Nat.le_of_not_lt fun y => z (Or.inl y), Classical.byContradiction fun y => z (Or.inr y)⟩))
    refine a_iconst (pc := 15) (v := nI 1) dX5_cut_15 (by decide) ?_
    refine a_goto (pc := 16) (tgt := 20) dX5_cut_16 (by decide) ?_
    refine a_iconst (pc := 20) (v := nI 1) dX5_cut_20 (by decide) ?_
    refine a_vV1 (pc := 21) (as := [.int (nI 1), .int (nI 1)]) (b := 66) (ci := 5) (v := .int (nI 1)) (h' := (sI H1 66 0 (nI 1))) dX5_cut_21 (lc_RX5_156 rfl) ceX5_fails rfl (lt90 hn1 (shK_lt (show shK 66 = _ from rfl))) (s5_fails1 c1 t1 (by omega)) rfl rfl (Nat.le_of_ble_eq_true rfl) rfl ?_
    refine n_if_eq (pc := 24) (tgt := 29) dX5_cut_24 (by decide) (by omega) (fun cz => ?_) (fun cz => ?_)
    · exact absurd cz (by omega)
    · skip
      refine a_iconst (pc := 27) (v := nI 0) dX5_cut_27 (by decide) ?_
      exact a_ireturn (pc := 28) dX5_cut_28 rfl rfl (⟨_, rfl, (fun w hw => by rw [e] at hw; cases hw), by rw [e, show kn [eIS] (.inr eIS) = 1 from by decide +kernel]; exact rd2 ⟨rfl, rfl⟩, by rw [e]; exact m1.scr (S := [66]) (Fr.refl.sI (by simp)) (by simp) (rd1 (by omega)) (rd1 (by omega)) (rd1 (by omega)), fm1.trans (Fr.fm (Fr.refl.sI (by simp)))⟩)
