/-! what tells of the best plan -/
theorem plV_q {s : SH} : ∀ {l : List (Nat × Nat)} {k : Nat} {X : Nat → Prop}, plV s k X l → ∀ i, i < l.length → (l.getD i (0, 0)).2 < 96 ∧ 1 ≤ (l.getD i (0, 0)).1 ∧ (l.getD i (0, 0)).1 ≤ sLen s
  | [], _, _, _, i, hi => absurd hi (Nat.not_lt_zero _)
  | (n, q) :: r, k, X, h, 0, _ => ⟨h.1.1.2, h.1.1.1, by have := h.1.2.1; show n ≤ _; omega⟩
  | (n, q) :: r, k, X, h, i + 1, hi => plV_q h.2 i (by have hi : i + 1 < r.length + 1 := hi; omega)
theorem BP_V {s : SH} {X : Nat → Prop} {l : List (Nat × Nat)} (h : BP s X l) : plV s 0 X l := by obtain ⟨c, _, y, _⟩ := h; exact (GP_plV y).1
noncomputable def rCutOf (s : SH) (k w : Int32) : Res := cif (sLen s ≤ 8 ∧ ∃ n, n < (bestL s).length ∧ k = nI n) (sel w [ri (nI ((bestL s).getD (i2n k) (0, 0)).1), ri (nI (((bestL s).getD (i2n k) (0, 0)).2 / 48)), ri (nI (qpl s ((bestL s).getD (i2n k) (0, 0)).2)), ri (nI (((bestL s).getD (i2n k) (0, 0)).1 * qsz s ((bestL s).getD (i2n k) (0, 0)).2))] (.inr eIA)) (.inr eNS)
theorem lt_best {s : SH} {n : Nat} (hn : n < 2 ^ 31) (h : nI n < bestR s) : sLen s ≤ 8 ∧ ∃ l, BP s noA l ∧ bestL s = l ∧ n < l.length := by
  have h8 : sLen s ≤ 8 := Nat.le_of_not_lt fun z => by
    rw [show bestR s = -2 from cif_t z] at h
    exact nI_pos hn (Int32.lt_of_lt_of_le h (by decide))
  rw [show bestR s = _ from cif_f (by omega)] at h
  rcases Classical.em (∃ l, BP s noA l) with ⟨l, hl⟩ | z
  · rw [show bestN s = _ from cif_t ⟨l, hl⟩, bestL_eq hl] at h
    have := plV_le (BP_V hl)
    exact ⟨h8, l, hl, bestL_eq hl, (nI_ltI hn (by omega)).mp h⟩
  · rw [show bestN s = _ from cif_f z] at h
    exact absurd (Int32.lt_of_lt_of_le h (by decide)) (nI_pos hn)
theorem best_lt {s : SH} {n : Nat} (h8 : sLen s ≤ 8) (h : n < (bestL s).length) : nI n < bestR s := by
  rw [show bestR s = _ from cif_f (by omega)]
  have hx : ∃ l, BP s noA l := Classical.byContradiction fun z => by
    have e : bestL s = [] := by unfold bestL; rw [dif_neg z]
    rw [e] at h; exact absurd h (Nat.not_lt_zero _)
  rw [show bestN s = _ from cif_t hx]
  obtain ⟨l, hl⟩ := hx
  rw [bestL_eq hl] at h ⊢
  have := plV_le (BP_V hl)
  exact (nI_ltI (by omega) (by omega)).mpr h
theorem PLc_b {h : AH} {s : SH} (p : PLc h s) {l : List (Nat × Nat)} (hl : BP s noA l) : PH h s l := by
  rcases p with ⟨l2, h1, h2⟩ | ⟨h1, -⟩
  · rw [BP_eq hl h1]; exact h2
  · exact absurd (BP_V hl) (h1 l)
set_option maxHeartbeats 1500000 in
set_option maxRecDepth 100000 in
theorem sp_sizeOfCut {d : Nat} {h : AH} {s : SH} (c : CB h) (g : GS s) (r : CR h 2 s) {l : List (Nat × Nat)} (ph : PH h s l) (hl8 : l.length ≤ 8) {n : Nat} (hn1 : n < l.length) (hq : (l.getD n (0, 0)).2 < 96) : AC mX4_sizeOfCut (d + 8) 0 0 [.ref 0, .int (nI n)] h (Qe (some (.int (nI (qsz s (l.getD n (0, 0)).2)))) h) := by
  have hn := c.1
  have gw := g.1
  have gh := g.2.1
  have gs := g.2.2.1
  have gl := g.2.2.2.2.2.1
  refine AC.of (by decide) rfl (Nat.le_of_ble_eq_true rfl) (fun X => ?_)
  show AW X mX4_sizeOfCut (d + 8) 0 0 0 [(0, .ref 0), (1, .int (nI n))] [] h (Qe (some (.int (nI (qsz s (l.getD n (0, 0)).2)))) h)
  refine a_aload_n (pc := 0) (i := 0) dX4_sizeOfCut_0 rfl rfl ?_
  refine a_getR (pc := 1) (ci := 4) (k := 3) (b := 2) dX4_sizeOfCut_1 (lf_RX4_23 rfl) (by decide) rfl rfl (lt90 hn (shK_lt (show shK 0 = _ from rfl))) c.2.1.2.1 ?_
  refine a_aload_n (pc := 4) (i := 0) dX4_sizeOfCut_4 rfl rfl ?_
  refine a_getR (pc := 5) (ci := 4) (k := 8) (b := 16) dX4_sizeOfCut_5 (lf_RX4_51 rfl) (by decide) rfl rfl (lt90 hn (shK_lt (show shK 0 = _ from rfl))) c.2.1.2.2.2.2.2 ?_
  refine a_iload_n (pc := 8) (i := 1) dX4_sizeOfCut_8 rfl rfl ?_
  refine a_vVN1 (pc := 9) (as := [.int (nI n)]) (b := 16) (ci := 1) (v := .int (nI ((l.getD n (0, 0)).2))) (h' := h) dX4_sizeOfCut_9 (lc_RX4_183 rfl) ceX1_spotOfCut rfl (lt90 hn (shK_lt (show shK 16 = _ from rfl))) (sp_spotOfCut c ph hn1 hl8) rfl rfl (Nat.le_of_ble_eq_true rfl) rfl ?_
  refine a_vVN1 (pc := 12) (as := [.int (nI ((l.getD n (0, 0)).2))]) (b := 2) (ci := 3) (v := .int (nI (qsz s (l.getD n (0, 0)).2))) (h' := h) dX4_sizeOfCut_12 (lc_RX4_132 rfl) ceX3_sizeAt rfl (lt90 hn (shK_lt (show shK 2 = _ from rfl))) (sp_sizeAt c g r hq) rfl rfl (Nat.le_of_ble_eq_true rfl) rfl ?_
  exact a_ireturn (pc := 15) dX4_sizeOfCut_15 rfl rfl (⟨rfl, rfl⟩)
set_option maxHeartbeats 1500000 in
set_option maxRecDepth 100000 in
theorem sp_sizesOfCut {d : Nat} {h : AH} {s : SH} (c : CB h) (g : GS s) (r : CR h 2 s) {l : List (Nat × Nat)} (ph : PH h s l) (hl8 : l.length ≤ 8) {n : Nat} (hn1 : n < l.length) (hq : (l.getD n (0, 0)).2 < 96) : AC mX4_sizesOfCut (d + 9) 0 0 [.ref 0, .int (nI n)] h (Qe (some (.int (nI ((l.getD n (0, 0)).1 * qsz s (l.getD n (0, 0)).2)))) h) := by
  have hn := c.1
  have gw := g.1
  have gh := g.2.1
  have gs := g.2.2.1
  have gl := g.2.2.2.2.2.1
  refine AC.of (by decide) rfl (Nat.le_of_ble_eq_true rfl) (fun X => ?_)
  show AW X mX4_sizesOfCut (d + 9) 0 0 0 [(0, .ref 0), (1, .int (nI n))] [] h (Qe (some (.int (nI ((l.getD n (0, 0)).1 * qsz s (l.getD n (0, 0)).2)))) h)
  refine a_aload_n (pc := 0) (i := 0) dX4_sizesOfCut_0 rfl rfl ?_
  refine a_getR (pc := 1) (ci := 4) (k := 8) (b := 16) dX4_sizesOfCut_1 (lf_RX4_51 rfl) (by decide) rfl rfl (lt90 hn (shK_lt (show shK 0 = _ from rfl))) c.2.1.2.2.2.2.2 ?_
  refine a_iload_n (pc := 4) (i := 1) dX4_sizesOfCut_4 rfl rfl ?_
  refine a_vVN1 (pc := 5) (as := [.int (nI n)]) (b := 16) (ci := 1) (v := .int (nI ((l.getD n (0, 0)).1))) (h' := h) dX4_sizesOfCut_5 (lc_RX4_180 rfl) ceX1_lengthOfCut rfl (lt90 hn (shK_lt (show shK 16 = _ from rfl))) (sp_lengthOfCut c ph hn1 hl8) rfl rfl (Nat.le_of_ble_eq_true rfl) rfl ?_
  refine a_aload_n (pc := 8) (i := 0) dX4_sizesOfCut_8 rfl rfl ?_
  refine a_iload_n (pc := 9) (i := 1) dX4_sizesOfCut_9 rfl rfl ?_
  refine a_vV1 (pc := 10) (as := [.int (nI n)]) (b := 0) (ci := 4) (v := .int (nI (qsz s (l.getD n (0, 0)).2))) (h' := h) dX4_sizesOfCut_10 (lc_RX4_192 rfl) ceX4_sizeOfCut rfl (lt90 hn (shK_lt (show shK 0 = _ from rfl))) (sp_sizeOfCut c g r ph hl8 hn1 hq) rfl rfl (Nat.le_of_ble_eq_true rfl) rfl ?_
  refine n_imul (pc := 13) dX4_sizesOfCut_13 ?_
  exact a_ireturn (pc := 14) dX4_sizesOfCut_14 rfl rfl (⟨rfl, rfl⟩)
theorem best_len {s : SH} (h8 : sLen s ≤ 8) : (bestL s).length ≤ 8 := by
  rcases Classical.em (∃ l, BP s noA l) with ⟨l, hl⟩ | z
  · rw [bestL_eq hl]; have := plV_le (BP_V hl); omega
  · unfold bestL; rw [dif_neg z]; exact Nat.zero_le _
set_option maxHeartbeats 1500000 in
set_option maxRecDepth 100000 in
theorem sp_cutOf {d : Nat} {h : AH} {t : ST} {k w : Int32} (m : IM h t) : AC mX4_cutOf (d + 100) 1 6 [.ref 0, .int k, .int w] h (Qw (rCutOf (tC t) k w) t h) := by
  have m0 := m.1
  have c := m0.1
  have g := m0.2.1.1
  have r := m0.2.2.1
  have hn := c.1
  have gl := g.2.2.2.2.2.1
  have gs := g.2.2.1
  have gw := g.1
  have gh := g.2.1
  refine AC.of (by decide) rfl (Nat.le_of_ble_eq_true rfl) (fun X => ?_)
  show AW X mX4_cutOf (d + 100) 1 6 0 [(0, .ref 0), (1, .int k), (2, .int w)] [] h (Qw (rCutOf (tC t) k w) t h)
  refine a_iload_n (pc := 0) (i := 1) dX4_cutOf_0 rfl rfl ?_
  refine a_if_lt (pc := 1) (tgt := 12) dX4_cutOf_1 (by decide) (fun c1 => ?_) (fun c1 => ?_)
  · have e : rCutOf (tC t) k w = _ := cif_f (fun z => by
        obtain ⟨h8, n, h1, h2⟩ := z
        have h5 := best_lt h8 h1
        obtain ⟨_, l, hl, hbl, h6⟩ := lt_best (n := n) (by have : (bestL (tC t)).length ≤ 8 := (best_len h8); omega) h5
        exact nI_pos (n := n) (by have : (bestL (tC t)).length ≤ 8 := (best_len h8); omega) (h2 ▸ c1))
    exact a_throw (kc := 0) (ks := 0) th_X4_cutOf_12 (by omega) (Nat.le_of_ble_eq_true rfl) (⟨by rw [e], m, Fw.refl⟩)
  · obtain ⟨n, hn31, rfl⟩ := nI_of c1
    refine a_iload_n (pc := 4) (i := 1) dX4_cutOf_4 rfl rfl ?_
    refine a_aload_n (pc := 5) (i := 0) dX4_cutOf_5 rfl rfl ?_
    refine a_wV1 (pc := 6) (as := []) (b := 0) (ci := 4) (v := .int (bestR (tC t))) dX4_cutOf_6 (lc_RX4_177 rfl) ceX4_bestCuts rfl (lt90 hn (shK_lt (show shK 0 = _ from rfl))) (sp_bestCuts m) rfl rfl (Nat.le_of_ble_eq_true rfl) (fun h1 f1 rb => ?_)
    obtain ⟨mm, hpl⟩ := rb
    clear m0 c g r hn gl gs gw gh
    have m0 := mm.1
    have c := m0.1
    have g := m0.2.1.1
    have r := m0.2.2.1
    have hn := c.1
    have gl := g.2.2.2.2.2.1
    have gs := g.2.2.1
    have gw := g.1
    have gh := g.2.1
    have fw0 := f1.w (by intro a ha; simp at ha; omega)
    refine a_icmp_lt (pc := 9) (tgt := 20) dX4_cutOf_9 (by decide) (fun c9 => ?_) (fun c9 => ?_)
    · obtain ⟨h8, l, hl, hbl, hnl⟩ := lt_best hn31 c9
      have ph := PLc_b (hpl h8).1 hl
      have hl8 : l.length ≤ 8 := by have := plV_le (BP_V hl); omega
      obtain ⟨hq, hl1, hl1l⟩ := plV_q (BP_V hl) n hnl
      have e : rCutOf (tC t) (nI n) w = _ := cif_t ⟨h8, n, by rw [hbl]; exact hnl, rfl⟩
      rw [i2n_nI hn31, hbl] at e
      refine a_iload_n (pc := 20) (i := 2) dX4_cutOf_20 rfl rfl ?_
      rcases tb_3 w with e0 | e1 | e2 | e3 | eo
      · refine a_tableIn (pc := 21) (tgt := 52) dX4_cutOf_21 (by rw [e0]; decide) (by rw [e0]; decide) (by rw [e0]; rfl) (by decide) ?_
        refine a_aload_n (pc := 52) (i := 0) dX4_cutOf_52 rfl rfl ?_
        refine a_getR (pc := 53) (ci := 4) (k := 8) (b := 16) dX4_cutOf_53 (lf_RX4_51 rfl) (by decide) rfl rfl (lt90 hn (shK_lt (show shK 0 = _ from rfl))) c.2.1.2.2.2.2.2 ?_
        refine a_iload_n (pc := 56) (i := 1) dX4_cutOf_56 rfl rfl ?_
        refine a_vVN1 (pc := 57) (as := [.int (nI n)]) (b := 16) (ci := 1) (v := .int (nI ((l.getD n (0, 0)).1))) (h' := h1) dX4_cutOf_57 (lc_RX4_180 rfl) ceX1_lengthOfCut rfl (lt90 hn (shK_lt (show shK 16 = _ from rfl))) (sp_lengthOfCut c ph hnl hl8) rfl rfl (Nat.le_of_ble_eq_true rfl) rfl ?_
        exact a_ireturn (pc := 60) dX4_cutOf_60 rfl rfl (⟨by rw [e, e0, sel_in (by decide)]; rfl, mm, fw0⟩)
      · refine a_tableIn (pc := 21) (tgt := 61) dX4_cutOf_21 (by rw [e1]; decide) (by rw [e1]; decide) (by rw [e1]; rfl) (by decide) ?_
        refine a_aload_n (pc := 61) (i := 0) dX4_cutOf_61 rfl rfl ?_
        refine a_getR (pc := 62) (ci := 4) (k := 8) (b := 16) dX4_cutOf_62 (lf_RX4_51 rfl) (by decide) rfl rfl (lt90 hn (shK_lt (show shK 0 = _ from rfl))) c.2.1.2.2.2.2.2 ?_
        refine a_iload_n (pc := 65) (i := 1) dX4_cutOf_65 rfl rfl ?_
        refine a_vVN1 (pc := 66) (as := [.int (nI n)]) (b := 16) (ci := 1) (v := .int (nI ((l.getD n (0, 0)).2))) (h' := h1) dX4_cutOf_66 (lc_RX4_183 rfl) ceX1_spotOfCut rfl (lt90 hn (shK_lt (show shK 16 = _ from rfl))) (sp_spotOfCut c ph hnl hl8) rfl rfl (Nat.le_of_ble_eq_true rfl) rfl ?_
        refine a_vS1 (pc := 69) (as := [.int (nI ((l.getD n (0, 0)).2))]) (v := .int (nI ((l.getD n (0, 0)).2 / 48))) (h' := h1) dX4_cutOf_69 (lc_RX4_186 rfl) ceX4_sideOf (sp_sideOf hq) rfl rfl (Nat.le_of_ble_eq_true rfl) rfl ?_
        exact a_ireturn (pc := 72) dX4_cutOf_72 rfl rfl (⟨by rw [e, e1, sel_in (by decide)]; rfl, mm, fw0⟩)
      · refine a_tableIn (pc := 21) (tgt := 73) dX4_cutOf_21 (by rw [e2]; decide) (by rw [e2]; decide) (by rw [e2]; rfl) (by decide) ?_
        refine a_aload_n (pc := 73) (i := 0) dX4_cutOf_73 rfl rfl ?_
        refine a_getR (pc := 74) (ci := 4) (k := 3) (b := 2) dX4_cutOf_74 (lf_RX4_23 rfl) (by decide) rfl rfl (lt90 hn (shK_lt (show shK 0 = _ from rfl))) c.2.1.2.1 ?_
        refine a_aload_n (pc := 77) (i := 0) dX4_cutOf_77 rfl rfl ?_
        refine a_getR (pc := 78) (ci := 4) (k := 8) (b := 16) dX4_cutOf_78 (lf_RX4_51 rfl) (by decide) rfl rfl (lt90 hn (shK_lt (show shK 0 = _ from rfl))) c.2.1.2.2.2.2.2 ?_
        refine a_iload_n (pc := 81) (i := 1) dX4_cutOf_81 rfl rfl ?_
        refine a_vVN1 (pc := 82) (as := [.int (nI n)]) (b := 16) (ci := 1) (v := .int (nI ((l.getD n (0, 0)).2))) (h' := h1) dX4_cutOf_82 (lc_RX4_183 rfl) ceX1_spotOfCut rfl (lt90 hn (shK_lt (show shK 16 = _ from rfl))) (sp_spotOfCut c ph hnl hl8) rfl rfl (Nat.le_of_ble_eq_true rfl) rfl ?_
        refine a_vVN1 (pc := 85) (as := [.int (nI ((l.getD n (0, 0)).2))]) (b := 2) (ci := 3) (v := .int (nI (qpl (tC t) (l.getD n (0, 0)).2))) (h' := h1) dX4_cutOf_85 (lc_RX4_129 rfl) ceX3_placeOf rfl (lt90 hn (shK_lt (show shK 2 = _ from rfl))) (sp_placeOf c g r hq) rfl rfl (Nat.le_of_ble_eq_true rfl) rfl ?_
        exact a_ireturn (pc := 88) dX4_cutOf_88 rfl rfl (⟨by rw [e, e2, sel_in (by decide)]; rfl, mm, fw0⟩)
      · refine a_tableIn (pc := 21) (tgt := 89) dX4_cutOf_21 (by rw [e3]; decide) (by rw [e3]; decide) (by rw [e3]; rfl) (by decide) ?_
        refine a_aload_n (pc := 89) (i := 0) dX4_cutOf_89 rfl rfl ?_
        refine a_iload_n (pc := 90) (i := 1) dX4_cutOf_90 rfl rfl ?_
        refine a_vV1 (pc := 91) (as := [.int (nI n)]) (b := 0) (ci := 4) (v := .int (nI ((l.getD n (0, 0)).1 * qsz (tC t) (l.getD n (0, 0)).2))) (h' := h1) dX4_cutOf_91 (lc_RX4_189 rfl) ceX4_sizesOfCut rfl (lt90 hn (shK_lt (show shK 0 = _ from rfl))) (sp_sizesOfCut c g r ph hl8 hnl hq) rfl rfl (Nat.le_of_ble_eq_true rfl) rfl ?_
        exact a_ireturn (pc := 94) dX4_cutOf_94 rfl rfl (⟨by rw [e, e3, sel_in (by decide)]; rfl, mm, fw0⟩)
      · refine a_tableOut (pc := 21) (tgt := 95) dX4_cutOf_21 eo (by decide) ?_
        exact a_throw (kc := 0) (ks := 0) th_X4_cutOf_95 (by omega) (Nat.le_of_ble_eq_true rfl) (⟨by rw [e, sel_out eo], mm, fw0⟩)
    · have e : rCutOf (tC t) (nI n) w = _ := cif_f (fun z => by
      obtain ⟨h8, n2, h1, h2⟩ := z
      have hb := best_len h8
      have e2 := (nI_eq hn31 (by omega)).mp h2
      subst e2
      exact c9 (best_lt h8 h1))
      exact a_throw (kc := 0) (ks := 0) th_X4_cutOf_12 (by omega) (Nat.le_of_ble_eq_true rfl) (⟨by rw [e], mm, fw0⟩)
