/-! changes of the whole object: cells taken, cells that come back -/
theorem GS_tk {s : SH} (g : GS s) {P : Nat → Prop} {n m : Nat} : GS (tkS s P n m) := g
noncomputable def oCut (t : ST) : Res × ST := cif (8 < sLen (tC t) ∨ ¬ ∃ l, BP (tC t) noA l ∧ l ≠ []) (.inr eIS, t) (ri (nI (bestL (tC t)).length), (tkS (tC t) (plC (tC t) (bestL (tC t))) (bestL (tC t)).length (cnt (plC (tC t) (bestL (tC t))) 64), (tRem t).2))
noncomputable def oSnip (t : ST) (x y n : Int32) : Res × ST := cif (plOk (tC t) x y) (cif (∃ k, (1 ≤ k ∧ k ≤ 8) ∧ n = nI k) (cif (spt (tC t) x y % 8 + i2n n ≤ sW (tC t) ∧ ∀ i, i < i2n n → qcu (tC t) (spt (tC t) x y + i)) (ri (nI (nThere (tkS (tC t) (pcl (tC t) (spt (tC t) x y) (i2n n)) 1 (cnt (pcl (tC t) (spt (tC t) x y) (i2n n)) 64)))), (tkS (tC t) (pcl (tC t) (spt (tC t) x y) (i2n n)) 1 (cnt (pcl (tC t) (spt (tC t) x y) (i2n n)) 64), (tRem t).2)) (.inr eIS, t)) (.inr eIA, t)) (.inr eIO, t)
theorem pcl_on {s : SH} (g : GS s) {q n : Nat} (hq : q < 96) (h8 : q % 8 + n ≤ sW s) (h : ∀ i, i < n → qcu s (q + i)) : ∀ b, pcl s q n b → b / 8 < sH s ∧ b % 8 < sW s := by
  rintro b ⟨j, hj, rfl⟩
  have hh := qhas_of_lt (h j hj).1
  have gw := g.1
  have gh := g.2.1
  obtain ⟨h1, h2⟩ := hh
  unfold qcell
  split <;> omega
theorem plC_on {s : SH} (g : GS s) : ∀ {l : List (Nat × Nat)} {k : Nat} {X : Nat → Prop}, plV s k X l → ∀ b, plC s l b → b / 8 < sH s ∧ b % 8 < sW s
  | [], _, _, _, b, hb => hb.elim
  | (n, q) :: r, k, X, h, b, hb => hb.elim (pcl_on g h.1.1.2 ((qrun_ok h.1.2.2.1).2 (by have := h.1.1.1; omega)) (fun i hi => ((qrun_ok h.1.2.2.1).1 i hi).2) b) (plC_on g h.2 b)
set_option maxHeartbeats 1500000 in
set_option maxRecDepth 100000 in
theorem sp_cut {d : Nat} {h : AH} {t : ST} (m : IM h t) : AC mX4_cut (d + 100) 1 6 [.ref 0] h (Qw (oCut t).1 (oCut t).2 h) := by
  have m0 := m.1
  have c := m0.1
  have g := m0.2.1.1
  have r := m0.2.2.1
  have hn := c.1
  have gl := g.2.2.2.2.2.1
  have gs := g.2.2.1
  have gw := g.1
  have gh := g.2.1
  refine AC.of (by decide) rfl (Nat.le_of_ble_eq_true rfl) (fun X => ?_)
  show AW X mX4_cut (d + 100) 1 6 0 [(0, .ref 0)] [] h (Qw (oCut t).1 (oCut t).2 h)
  refine a_aload_n (pc := 0) (i := 0) dX4_cut_0 rfl rfl ?_
  refine a_wV1 (pc := 1) (as := []) (b := 0) (ci := 4) (v := .int (bestR (tC t))) dX4_cut_1 (lc_RX4_177 rfl) ceX4_bestCuts rfl (lt90 hn (shK_lt (show shK 0 = _ from rfl))) (sp_bestCuts m) rfl rfl (Nat.le_of_ble_eq_true rfl) (fun h1 f1 rb => ?_)
  obtain ⟨mm, hpl⟩ := rb
  clear m0 c g r hn gl gs gw gh
  have m0 := mm.1
  have c := m0.1
  have g := m0.2.1.1
  have r := m0.2.2.1
  have hn := c.1
  have gl := g.2.2.2.2.2.1
  have gs := g.2.2.1
  have gw := g.1
  have gh := g.2.1
  have fw0 := f1.w (by intro a ha; simp at ha; omega)
  refine a_istore_n (pc := 4) (i := 1) (ls' := [(0, .ref 0), (1, .int (bestR (tC t)))]) dX4_cut_4 rfl (by decide) rfl ?_
  refine a_iload_n (pc := 5) (i := 1) dX4_cut_5 rfl rfl ?_
  refine a_if_gt (pc := 6) (tgt := 17) dX4_cut_6 (by decide) (fun c6 => ?_) (fun c6 => ?_)
  · skip
    have h8 : sLen (tC t) ≤ 8 := Nat.le_of_not_lt fun z => by rw [show bestR (tC t) = -2 from cif_t z] at c6; revert c6; decide
    have hbr : bestR (tC t) = bestN (tC t) := cif_f (by omega)
    have hpp := (hpl h8).1
    rcases hpp with ⟨l, hb, ph⟩ | ⟨hno, hm1⟩
    · skip
      have hbn : bestN (tC t) = nI l.length := by rw [show bestN (tC t) = _ from cif_t ⟨l, hb⟩, bestL_eq hb]
      have hl8 : l.length ≤ 8 := by obtain ⟨c, _, y, _⟩ := hb; have := plV_le (GP_plV y).1; omega
      have hne : l ≠ [] := fun z => by rw [hbr, hbn, z] at c6; revert c6; decide
      have e : oCut t = _ := cif_f (fun z => z.elim (fun z => absurd z (by omega)) (fun z => z ⟨l, hb, hne⟩))
      rw [bestL_eq hb] at e
      have hpv := (show plV (tC t) 0 noA l from by obtain ⟨c, _, y, _⟩ := hb; exact (GP_plV y).1)
      refine a_aload_n (pc := 17) (i := 0) dX4_cut_17 rfl rfl ?_
      refine a_uV (pc := 18) (as := []) (b := 0) (ci := 4) dX4_cut_18 (lc_RX4_73 rfl) ceX4_remember rfl (lt90 hn (shK_lt (show shK 0 = _ from rfl))) (sp_remember m0) rfl rfl (Nat.le_of_ble_eq_true rfl) (fun h2 y => y.2.1.1) (fun H y => ?_)
      obtain ⟨m1, fw1, h91, fv1⟩ := y
      have c1 := m1.1
      have r1 := m1.2.2.1
      rw [tRem_c] at r1
      have hnr := c1.1
      refine a_locs (ls' := [(0, .ref 0), (1, .int (nI l.length))]) (by rw [hbr, hbn]) ?_
      refine a_aload_n (pc := 21) (i := 0) dX4_cut_21 rfl rfl ?_
      refine a_getR (pc := 22) (ci := 4) (k := 3) (b := 2) dX4_cut_22 (lf_RX4_23 rfl) (by decide) rfl rfl (lt90 hnr (shK_lt (show shK 0 = _ from rfl))) c1.2.1.2.1 ?_
      refine a_aload_n (pc := 25) (i := 0) dX4_cut_25 rfl rfl ?_
      refine a_getR (pc := 26) (ci := 4) (k := 8) (b := 16) dX4_cut_26 (lf_RX4_51 rfl) (by decide) rfl rfl (lt90 hnr (shK_lt (show shK 0 = _ from rfl))) c1.2.1.2.2.2.2.2 ?_
      refine a_getL (pc := 29) (ci := 1) (k := 9) dX4_cut_29 (lf_RX4_203 rfl) (by decide) rfl rfl (lt90 hnr (shK_lt (show shK 16 = _ from rfl))) ?_
      refine a_top (show (.long (hL H 16 9) : Value) = .long (mkL (plC (tC t) l)) from congrArg Value.long ((congrFun (fv1 16 (by omega) (by omega)).2 9).trans ph.2.1)) ?_
      refine a_iload_n (pc := 32) (i := 1) dX4_cut_32 rfl rfl ?_
      refine a_wVN0 (pc := 33) (as := [.long (mkL (plC (tC t) l)), .int (nI l.length)]) (b := 2) (ci := 3) dX4_cut_33 (lc_RX4_229 rfl) ceX3_take rfl (lt90 hnr (shK_lt (show shK 2 = _ from rfl))) (sp_take c1 g r1 (plC_on g hpv)) rfl rfl (Nat.le_of_ble_eq_true rfl) (fun H2 f2 r2 => ?_)
      have f2b : Fr [2, 3, 4, 5] H H2 := f2.mono (by intro a ha; simp at ha ⊢; omega)
      have c2 := c1.fr f2
      have hn2 := c2.1
      have m2 := m1.cur f2b r2 (GS_tk g)
      have k92 : hI H2 0 9 = 0 := (congrFun (f2.2.2 0 (by simp)).1 9).trans h91
      have fw2 := fw1.trans (f2.w (by simp))
      refine a_iload_n (pc := 36) (i := 1) dX4_cut_36 rfl rfl ?_
      exact a_ireturn (pc := 37) dX4_cut_37 rfl rfl (⟨by rw [e]; rfl, by rw [e]; exact IM.z m2 k92, fw0.trans fw2⟩)
    · skip
      exfalso
      rw [hbr, show bestN (tC t) = -1 from cif_f (fun ⟨l, c, _, y, _⟩ => hno l (GP_plV y).1)] at c6
      revert c6; decide
  · have e : oCut t = _ := cif_t (Classical.or_iff_not_imp_left.mpr (fun h8 ⟨l, hb, hne⟩ => by
      rw [show bestR (tC t) = _ from cif_f h8, show bestN (tC t) = _ from cif_t ⟨l, hb⟩, bestL_eq hb] at c6
      have hl8 : l.length ≤ 8 := by obtain ⟨c, _, y, _⟩ := hb; have := plV_le (GP_plV y).1; omega
      have hl0 : 0 < l.length := List.length_pos_iff.mpr hne
      exact c6 ((nI_ltI (a := 0) (by omega) (by omega)).mpr hl0)))
    exact a_throw (kc := 0) (ks := 0) th_X4_cut_9 (by omega) (Nat.le_of_ble_eq_true rfl) (⟨by rw [e], by rw [e]; exact mm, fw0⟩)
